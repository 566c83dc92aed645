def f_X9_ageOf (rf : rc_F) (a0 : Nat) (u1 : Int32) (σ : rc_S) : Option (Int32 × rc_S) :=
  rc_bd (f_X9_of rf a0 u1 (1 : Int32) σ) fun w_1 σ_1 =>
  if w_1 = 0 then
    some ((0 : Int32), σ_1)
  else
    rc_bd (f_X9_of rf a0 u1 (5 : Int32) σ_1) fun w_2 σ_2 =>
    some (((σ_1 (rf a0 1) 3) - w_2), σ_2)
def f_X9_noteOf (rf : rc_F) (a0 : Nat) (u1 : Int32) (u2 : Int32) (σ : rc_S) : Option (Int32 × rc_S) :=
  rc_bd (f_X9_of rf a0 u1 (1 : Int32) σ) fun w_1 σ_1 =>
  if w_1 = 0 then
    some ((0 : Int32), σ_1)
  else
    rc_bd (f_X9_of rf a0 u1 (4 : Int32) σ_1) fun w_2 σ_2 =>
    rc_bd (f_X9_ageOf rf a0 u1 σ_2) fun w_3 σ_3 =>
    rc_lt (w_2 + ((w_3 + u2) / (2 : Int32))) fun v3_4 =>
    if v3_4 ≤ (9 : Int32) then
      rc_bd (f_X9_part rf a0 u1 σ_3) fun w_5 σ_5 =>
      some (((v3_4 * ((100 : Int32) - w_5)) / (100 : Int32)), σ_5)
    else
      rc_bd (f_X9_part rf a0 u1 σ_3) fun w_6 σ_6 =>
      some ((((9 : Int32) * ((100 : Int32) - w_6)) / (100 : Int32)), σ_6)
def f_X9_notes (rf : rc_F) (a0 : Nat) (u1 : Int32) (u2 : Int32) (σ : rc_S) : Option (Int32 × rc_S) :=
  rc_ck (rc_in ((63 : Int32) + ((2 : Int32) * u1)) 107) <|
  rc_ck (rc_in (((63 : Int32) + ((2 : Int32) * u1)) + (1 : Int32)) 107) <|
  rc_lt ((σ (rf a0 1) ((63 : Int32) + ((2 : Int32) * u1)).toNatClampNeg) + ((2 : Int32) * (σ (rf a0 1) (((63 : Int32) + ((2 : Int32) * u1)) + (1 : Int32)).toNatClampNeg))) fun v3_3 =>
  if u2 ≤ 0 then
    some ((0 : Int32), σ)
  else
    if u2 ≤ ((50 : Int32) - ((5 : Int32) * v3_3)) then
      some ((0 : Int32), σ)
    else
      some ((1 : Int32), σ)
def f_X9_noses_4 (rf : rc_F) (a0 : Nat) (v1 : Int32) (K : Int32 → Int32 → rc_S → Option (Int32 × rc_S)) : Nat → Int32 → Int32 → rc_S → Option (Int32 × rc_S)
  | 0, _, _, _ => none
  | n + 1, v2, v3, σ =>
    if (σ (rf a0 1) 1) ≤ v3 then
      K v2 v3 σ
    else
      rc_bd (f_X9_notes rf a0 v3 v1 σ) fun w_1 σ_1 =>
      if w_1 = 0 then
        rc_lt (v2 ||| (0 : Int32)) fun v2_2 =>
        rc_lt (v3 + 1) fun v3_3 =>
        f_X9_noses_4 rf a0 v1 K n v2_2 v3_3 σ_1
      else
        rc_lt (v2 ||| ((1 : Int32) <<< (v3 &&& 31))) fun v2_4 =>
        rc_lt (v3 + 1) fun v3_5 =>
        f_X9_noses_4 rf a0 v1 K n v2_4 v3_5 σ_1
def f_X9_noses (rf : rc_F) (a0 : Nat) (u1 : Int32) (σ : rc_S) : Option (Int32 × rc_S) :=
  f_X9_noses_4 rf a0 u1 (fun v2_8 v3_9 σ_10 =>
    some (v2_8, σ_10)
  ) rc_fu (0 : Int32) (0 : Int32) σ
def f_X9_hailIn (rf : rc_F) (a0 : Nat) (u1 : Int32) (u2 : Int32) (σ : rc_S) : Option (Int32 × rc_S) :=
  rc_bd (f_X9_part rf a0 u1 σ) fun w_1 σ_1 =>
  rc_lt ((w_1 * u2) / (100 : Int32)) fun v3_2 =>
  rc_bd (f_X9_of rf a0 u1 (1 : Int32) σ_1) fun w_3 σ_3 =>
  rc_bd (f_X9_of rf a0 u1 (2 : Int32) σ_3) fun w_4 σ_4 =>
  rc_lt (u2 - (w_3 - w_4)) fun v4_5 =>
  if v4_5 ≤ v3_2 then
    some (v3_2, σ_4)
  else
    some (v4_5, σ_4)
def f_X9_empties (rf : rc_F) (a0 : Nat) (u1 : Int32) (σ : rc_S) : Option (Unit × rc_S) :=
  rc_bd (f_X9_sets rf a0 u1 (1 : Int32) (0 : Int32) σ) fun _ σ_1 =>
  rc_bd (f_X9_sets rf a0 u1 (2 : Int32) (0 : Int32) σ_1) fun _ σ_2 =>
  rc_bd (f_X9_sets rf a0 u1 (3 : Int32) (-1 : Int32) σ_2) fun _ σ_3 =>
  rc_bd (f_X9_sets rf a0 u1 (4 : Int32) (0 : Int32) σ_3) fun _ σ_4 =>
  rc_bd (f_X9_sets rf a0 u1 (5 : Int32) (0 : Int32) σ_4) fun _ σ_5 =>
  some ((), σ_5)
def f_X9_goes (rf : rc_F) (a0 : Nat) (u1 : Int32) (u2 : Int32) (u3 : Int32) (σ : rc_S) : Option (Unit × rc_S) :=
  rc_bd (f_X9_of rf a0 u1 (1 : Int32) σ) fun w_1 σ_1 =>
  rc_bd (f_X9_sets rf a0 u1 (1 : Int32) (w_1 - u2) σ_1) fun _ σ_2 =>
  rc_bd (f_X9_of rf a0 u1 (2 : Int32) σ_2) fun w_3 σ_3 =>
  rc_bd (f_X9_sets rf a0 u1 (2 : Int32) (w_3 - u3) σ_3) fun _ σ_4 =>
  rc_bd (f_X9_of rf a0 u1 (1 : Int32) σ_4) fun w_5 σ_5 =>
  if w_5 = 0 then
    rc_bd (f_X9_empties rf a0 u1 σ_5) fun _ σ_6 =>
    some ((), σ_6)
  else
    some ((), σ_5)
def f_X9_caught_9 (rf : rc_F) (a0 : Nat) (v1 : Int32) (v2 : Int32) (K : Int32 → Int32 → rc_S → Option (Int32 × rc_S)) : Nat → Int32 → Int32 → rc_S → Option (Int32 × rc_S)
  | 0, _, _, _ => none
  | n + 1, v3, v4, σ =>
    if (σ (rf a0 1) 0) ≤ v4 then
      K v3 v4 σ
    else
      rc_bd (f_X9_of rf a0 v4 (0 : Int32) σ) fun w_2 σ_2 =>
      if w_2 = v1 then
        rc_bd (f_X9_of rf a0 v4 (1 : Int32) σ_2) fun w_4 σ_4 =>
        if w_4 = 0 then
          if v3 ≤ (20 : Int32) then
            rc_lt (v4 + 1) fun v4_6 =>
            f_X9_caught_9 rf a0 v1 v2 K n (0 : Int32) v4_6 σ_4
          else
            rc_lt (v3 - (20 : Int32)) fun v3_7 =>
            rc_lt (v4 + 1) fun v4_8 =>
            f_X9_caught_9 rf a0 v1 v2 K n v3_7 v4_8 σ_4
        else
          rc_lt (v4 + 1) fun v4_5 =>
          f_X9_caught_9 rf a0 v1 v2 K n v3 v4_5 σ_4
      else
        rc_lt (v4 + 1) fun v4_3 =>
        f_X9_caught_9 rf a0 v1 v2 K n v3 v4_3 σ_2
def f_X9_caught (rf : rc_F) (a0 : Nat) (u1 : Int32) (u2 : Int32) (σ : rc_S) : Option (Int32 × rc_S) :=
  rc_lt ((u1 + (1 : Int32)) * u2) fun v3_1 =>
  f_X9_caught_9 rf a0 u1 u2 (fun v3_13 v4_14 σ_15 =>
    some ((((u1 + (1 : Int32)) * u2) - v3_13), σ_15)
  ) rc_fu v3_1 (0 : Int32) σ
def f_X9_fills_9 (rf : rc_F) (a0 : Nat) (v1 : Int32) (v2 : Int32) (K : Int32 → Int32 → rc_S → Option (Unit × rc_S)) : Nat → Int32 → Int32 → rc_S → Option (Unit × rc_S)
  | 0, _, _, _ => none
  | n + 1, v3, v4, σ =>
    if (σ (rf a0 1) 0) ≤ v4 then
      K v3 v4 σ
    else
      if v3 ≤ 0 then
        K v3 v4 σ
      else
        rc_bd (f_X9_of rf a0 v4 (0 : Int32) σ) fun w_2 σ_2 =>
        if w_2 = v1 then
          rc_bd (f_X9_of rf a0 v4 (1 : Int32) σ_2) fun w_4 σ_4 =>
          if w_4 ≤ 0 then
            if v3 ≤ (20 : Int32) then
              rc_bd (f_X9_sets rf a0 v4 (1 : Int32) v3 σ_4) fun _ σ_5 =>
              rc_bd (f_X9_sets rf a0 v4 (3 : Int32) (σ_5 (rf a0 1) 4) σ_5) fun _ σ_6 =>
              rc_ck (rc_in ((11 : Int32) + v1) 107) <|
              rc_bd (f_X9_sets rf a0 v4 (4 : Int32) (σ_6 (rf a0 1) ((11 : Int32) + v1).toNatClampNeg) σ_6) fun _ σ_8 =>
              rc_bd (f_X9_sets rf a0 v4 (5 : Int32) (σ_8 (rf a0 1) 3) σ_8) fun _ σ_9 =>
              rc_lt (v3 - v3) fun v3_10 =>
              rc_lt (v4 + 1) fun v4_11 =>
              f_X9_fills_9 rf a0 v1 v2 K n v3_10 v4_11 σ_9
            else
              rc_bd (f_X9_sets rf a0 v4 (1 : Int32) (20 : Int32) σ_4) fun _ σ_12 =>
              rc_bd (f_X9_sets rf a0 v4 (3 : Int32) (σ_12 (rf a0 1) 4) σ_12) fun _ σ_13 =>
              rc_ck (rc_in ((11 : Int32) + v1) 107) <|
              rc_bd (f_X9_sets rf a0 v4 (4 : Int32) (σ_13 (rf a0 1) ((11 : Int32) + v1).toNatClampNeg) σ_13) fun _ σ_15 =>
              rc_bd (f_X9_sets rf a0 v4 (5 : Int32) (σ_15 (rf a0 1) 3) σ_15) fun _ σ_16 =>
              rc_lt (v3 - (20 : Int32)) fun v3_17 =>
              rc_lt (v4 + 1) fun v4_18 =>
              f_X9_fills_9 rf a0 v1 v2 K n v3_17 v4_18 σ_16
          else
            rc_lt (v4 + 1) fun v4_20 =>
            f_X9_fills_9 rf a0 v1 v2 K n v3 v4_20 σ_4
        else
          rc_lt (v4 + 1) fun v4_3 =>
          f_X9_fills_9 rf a0 v1 v2 K n v3 v4_3 σ_2
def f_X9_fills (rf : rc_F) (a0 : Nat) (u1 : Int32) (u2 : Int32) (σ : rc_S) : Option (Unit × rc_S) :=
  rc_lt ((u1 + (1 : Int32)) * u2) fun v3_1 =>
  f_X9_fills_9 rf a0 u1 u2 (fun v3_25 v4_26 σ_27 =>
    rc_lt (rc_up σ_27 (rf a0 1) 7 ((σ_27 (rf a0 1) 7) + v3_25)) fun σ_28 =>
    rc_ck (rc_in ((11 : Int32) + u1) 107) <|
    rc_lt ((σ_28 (rf a0 1) ((11 : Int32) + u1).toNatClampNeg) - (u2 / (3 : Int32))) fun v4_30 =>
    if 0 ≤ v4_30 then
      rc_ck (rc_in ((11 : Int32) + u1) 107) <|
      rc_lt (rc_up σ_28 (rf a0 1) ((11 : Int32) + u1).toNatClampNeg v4_30) fun σ_32 =>
      some ((), σ_32)
    else
      rc_ck (rc_in ((11 : Int32) + u1) 107) <|
      rc_lt (rc_up σ_28 (rf a0 1) ((11 : Int32) + u1).toNatClampNeg (0 : Int32)) fun σ_34 =>
      some ((), σ_34)
  ) rc_fu v3_1 (0 : Int32) σ
def f_X9_storms_31 (rf : rc_F) (a0 : Nat) (v1 : Int32) (v2 : Int32) (K : Int32 → Int32 → rc_S → Option (Int32 × rc_S)) : Nat → Int32 → Int32 → rc_S → Option (Int32 × rc_S)
  | 0, _, _, _ => none
  | n + 1, v3, v4, σ =>
    if (4 : Int32) ≤ v4 then
      K v3 v4 σ
    else
      rc_bd (f_X9_caught rf a0 v4 v1 σ) fun w_4 σ_4 =>
      rc_lt (v3 + w_4) fun v3_5 =>
      rc_bd (f_X9_fills rf a0 v4 v1 σ_4) fun _ σ_6 =>
      rc_lt (v4 + 1) fun v4_7 =>
      f_X9_storms_31 rf a0 v1 v2 K n v3_5 v4_7 σ_6
def f_X9_storms (rf : rc_F) (a0 : Nat) (u1 : Int32) (u2 : Int32) (σ : rc_S) : Option (Int32 × rc_S) :=
  rc_bd (f_X9_in rf u1 (1 : Int32) (9 : Int32) σ) fun w_1 σ_1 =>
  if w_1 = 0 then
    rc_bd (f_X9_refused rf a0 (1 : Int32) (0 : Int32) σ_1) fun w_2 σ_2 =>
    some (w_2, σ_2)
  else
    rc_bd (f_X9_in rf u2 (0 : Int32) (3 : Int32) σ_1) fun w_3 σ_3 =>
    if w_3 = 0 then
      rc_bd (f_X9_refused rf a0 (1 : Int32) (0 : Int32) σ_3) fun w_26 σ_26 =>
      some (w_26, σ_26)
    else
      f_X9_storms_31 rf a0 u1 u2 (fun v3_9 v4_10 σ_11 =>
        rc_lt ((71 : Int32) + ((3 : Int32) * ((σ_11 (rf a0 1) 4) - (σ_11 (rf a0 1) 4) / (12 : Int32) * (12 : Int32)))) fun v4_12 =>
        rc_ck (rc_in v4_12 107) <|
        rc_lt (rc_up σ_11 (rf a0 1) v4_12.toNatClampNeg u1) fun σ_14 =>
        rc_ck (rc_in (v4_12 + (1 : Int32)) 107) <|
        rc_lt (rc_up σ_14 (rf a0 1) (v4_12 + (1 : Int32)).toNatClampNeg (σ_14 (rf a0 1) 3)) fun σ_16 =>
        rc_ck (rc_in (v4_12 + (2 : Int32)) 107) <|
        rc_lt (rc_up σ_16 (rf a0 1) (v4_12 + (2 : Int32)).toNatClampNeg v3_9) fun σ_18 =>
        rc_lt (rc_up σ_18 (rf a0 1) 4 ((σ_18 (rf a0 1) 4) + (1 : Int32))) fun σ_19 =>
        rc_lt (rc_up σ_19 (rf a0 1) 5 ((σ_19 (rf a0 1) 5) + v3_9)) fun σ_20 =>
        if ((σ_20 (rf a0 1) 2) + ((2 : Int32) * u2)) ≤ (9 : Int32) then
          rc_lt (rc_up σ_20 (rf a0 1) 2 ((σ_20 (rf a0 1) 2) + ((2 : Int32) * u2))) fun σ_21 =>
          rc_bd (f_X9_done rf a0 v3_9 σ_21) fun w_22 σ_22 =>
          some (w_22, σ_22)
        else
          rc_lt (rc_up σ_20 (rf a0 1) 2 (9 : Int32)) fun σ_23 =>
          rc_bd (f_X9_done rf a0 v3_9 σ_23) fun w_24 σ_24 =>
          some (w_24, σ_24)
      ) rc_fu (0 : Int32) (0 : Int32) σ_3
def f_X9_places (rf : rc_F) (a0 : Nat) (u1 : Int32) (σ : rc_S) : Option (Int32 × rc_S) :=
  rc_bd (f_X9_in rf u1 (0 : Int32) (3 : Int32) σ) fun w_1 σ_1 =>
  if w_1 = 0 then
    rc_bd (f_X9_refused rf a0 (1 : Int32) (0 : Int32) σ_1) fun w_9 σ_9 =>
    some (w_9, σ_9)
  else
    rc_lt (σ_1 (rf a0 1) 0) fun v2_2 =>
    if v2_2 = (8 : Int32) then
      rc_bd (f_X9_refused rf a0 (2 : Int32) (8 : Int32) σ_1) fun w_7 σ_7 =>
      some (w_7, σ_7)
    else
      rc_bd (f_X9_sets rf a0 v2_2 (0 : Int32) u1 σ_1) fun _ σ_3 =>
      rc_bd (f_X9_empties rf a0 v2_2 σ_3) fun _ σ_4 =>
      rc_lt (rc_up σ_4 (rf a0 1) 0 (v2_2 + (1 : Int32))) fun σ_5 =>
      rc_bd (f_X9_done rf a0 v2_2 σ_5) fun w_6 σ_6 =>
      some (w_6, σ_6)
set_option maxHeartbeats 4000000 in
set_option maxRecDepth 100000 in
theorem k_X9_ageOf (l : Launch) {Y : rc_Y} {sh : Nat → Nat} {rf : rc_F} (hT : rc_T Y sh rf) (a0 : Nat) (u1 : Int32) (h0 : sh a0 = 10) (sz : Nat) (σ σ' : rc_S) (r : Int32) (hm : f_X9_ageOf rf a0 u1 σ = some (r, σ')) : Met l yX9_ageOf (Cond.code yX9_ageOf cX9_ageOf 2 (some .int) :: rc_big) ({ frames := 1, cells := 0, slots := 0, locals := 22 } : Room) (rc_P Y sh rf σ sz [.ref a0, .int u1]) (va_Qi (fun (r' : Int32) (_ : Unit) => r' = r) (fun _ t => rc_W Y sh rf σ' t.heap) (rc_A sh sz)) 0 0 (rc_A sh sz) := by
  refine Met.ofW (cc := cX9_ageOf) (maxL := 2) (ret := (some .int)) (by decide +kernel) rfl ?_
  intro p e s m args below meth c s₁ B hml hv
  obtain ⟨rfl, hsz, hW, hK, hE⟩ := hv
  have hx := B.exec
  have hb := B.bytes
  have hr := B.returns
  have hts : ∀ w ∈ rc_big, w.before _ s = true := fun w h => atoms_spec (ws := Cond.code yX9_ageOf cX9_ageOf 2 (some .int) :: rc_big) B.pre w (List.mem_cons_of_mem _ h)
  have hown : s.vm.findClass RX9 = some m.cls := findClass_of_methodNamed B.named
  have hlocks := B.notSynchronized
  clear B
  subst hsz
  have hS : va_S (rc_A sh s.heap.size) s.heap s.heap [] := va_S.rf
  have hl := lv_entry ([.ref a0, .int u1]) (n := 2) (Nat.le_of_ble_eq_true rfl)
  rw [lg_entry_eq]
  generalize (lg_sl ([.ref a0, .int u1]) ++ List.replicate (2 - (lg_sl ([.ref a0, .int u1])).length) Slot.unset).toArray = ls at hl ⊢
  have hl : lv_has ls 2 [(0, .ref a0), (1, .int u1)] := hl
  unfold f_X9_ageOf at hm
  refine lv_aload_n hx hb dX9_ageOf_0 rfl (lv_at hl 0 rfl) ?_
  refine lv_iload_n hx hb dX9_ageOf_1 rfl (lv_at hl 1 rfl) ?_
  refine lv_iconst (v := 1) hx hb dX9_ageOf_2 (by decide) ?_
  obtain ⟨w_1, σ_1, hc_1, hm0⟩ := rc_bd_inv hm
  clear hm
  refine rc_ci hS (va_runV (As := [.int u1, .int (1 : Int32)]) (rest := []) ⟨hx, hb, hml, hown, hts⟩ (k_X9_of l hT a0 u1 (1 : Int32) h0 s.heap.size _ _ _ hc_1) (cwV 2 hts (rc_gV tw_7_115 tw_7_117 tw_p_20 tw_1_14 tw_7_118) rfl rfl rfl (by decide +kernel) ⟨Nat.le_of_ble_eq_true rfl, Nat.le_of_ble_eq_true rfl⟩) (rc_preV hT hW hK hE hS h0 (by decide) rfl (q := (RX9, TX9, 22)) rfl [.int u1, .int (1 : Int32)]) rfl rfl hl.1 rfl (lv_room (Nat.le_of_ble_eq_true rfl)) dX9_ageOf_3 ⟨Nat.le_of_ble_eq_true rfl, Nat.le_of_ble_eq_true rfl⟩) (fun H locs hW hS => ?_)
  have hm := hm0
  clear hm0 hc_1
  refine lv_if_ne (tgt := 13) hx hb dX9_ageOf_6 (by decide) (fun c_3 => ?_) (fun c_3 => ?_)
  · replace hm := rc_f hm c_3
    refine lv_aload_n hx hb dX9_ageOf_13 rfl (lv_at hl 0 rfl) ?_
    refine rg_10_1 hx hb hts hown hK hW h0 tw_7_22 dX9_ageOf_14 ?_
    refine lv_iconst (v := 3) hx hb dX9_ageOf_17 (by decide) ?_
    refine rc_ialdj (j := 3) hx hb hK hW (rc_t_10_1 hT h0) (by decide) rfl (rc_inD (by decide)) (by decide) dX9_ageOf_18 ?_
    refine lv_aload_n hx hb dX9_ageOf_19 rfl (lv_at hl 0 rfl) ?_
    refine lv_iload_n hx hb dX9_ageOf_20 rfl (lv_at hl 1 rfl) ?_
    refine lv_iconst (v := 5) hx hb dX9_ageOf_21 (by decide) ?_
    obtain ⟨w_2, σ_2, hc_2, hm0⟩ := rc_bd_inv hm
    clear hm
    refine rc_ci hS (va_runV (As := [.int u1, .int (5 : Int32)]) (rest := [.int (σ_1 (rf a0 1) 3)]) ⟨hx, hb, hml, hown, hts⟩ (k_X9_of l hT a0 u1 (5 : Int32) h0 H.size _ _ _ hc_2) (cwV 2 hts (rc_gV tw_7_115 tw_7_117 tw_p_20 tw_1_14 tw_7_118) rfl rfl rfl (by decide +kernel) ⟨Nat.le_of_ble_eq_true rfl, Nat.le_of_ble_eq_true rfl⟩) (rc_preV hT hW hK hE hS h0 (by decide) rfl (q := (RX9, TX9, 22)) rfl [.int u1, .int (5 : Int32)]) rfl rfl hl.1 rfl (lv_room (Nat.le_of_ble_eq_true rfl)) dX9_ageOf_22 ⟨Nat.le_of_ble_eq_true rfl, Nat.le_of_ble_eq_true rfl⟩) (fun H locs hW hS => ?_)
    have hm := hm0
    clear hm0 hc_2
    refine lv_isub hx hb dX9_ageOf_25 ?_
    exact rc_eiret hx hb hr hlocks hW hS (Nat.le_of_ble_eq_true rfl) (Nat.le_of_ble_eq_true rfl) hm dX9_ageOf_26
  · replace hm := rc_t hm c_3
    refine lv_iconst (v := 0) hx hb dX9_ageOf_9 (by decide) ?_
    refine lv_goto (tgt := 26) hx hb dX9_ageOf_10 (by decide) ?_
    exact rc_eiret hx hb hr hlocks hW hS (Nat.le_of_ble_eq_true rfl) (Nat.le_of_ble_eq_true rfl) hm dX9_ageOf_26
set_option maxHeartbeats 4000000 in
set_option maxRecDepth 100000 in
theorem k_X9_noteOf (l : Launch) {Y : rc_Y} {sh : Nat → Nat} {rf : rc_F} (hT : rc_T Y sh rf) (a0 : Nat) (u1 : Int32) (u2 : Int32) (h0 : sh a0 = 10) (sz : Nat) (σ σ' : rc_S) (r : Int32) (hm : f_X9_noteOf rf a0 u1 u2 σ = some (r, σ')) : Met l yX9_noteOf (Cond.code yX9_noteOf cX9_noteOf 4 (some .int) :: rc_big) ({ frames := 2, cells := 0, slots := 0, locals := 43 } : Room) (rc_P Y sh rf σ sz [.ref a0, .int u1, .int u2]) (va_Qi (fun (r' : Int32) (_ : Unit) => r' = r) (fun _ t => rc_W Y sh rf σ' t.heap) (rc_A sh sz)) 0 0 (rc_A sh sz) := by
  refine Met.ofW (cc := cX9_noteOf) (maxL := 4) (ret := (some .int)) (by decide +kernel) rfl ?_
  intro p e s m args below meth c s₁ B hml hv
  obtain ⟨rfl, hsz, hW, hK, hE⟩ := hv
  have hx := B.exec
  have hb := B.bytes
  have hr := B.returns
  have hts : ∀ w ∈ rc_big, w.before _ s = true := fun w h => atoms_spec (ws := Cond.code yX9_noteOf cX9_noteOf 4 (some .int) :: rc_big) B.pre w (List.mem_cons_of_mem _ h)
  have hown : s.vm.findClass RX9 = some m.cls := findClass_of_methodNamed B.named
  have hlocks := B.notSynchronized
  clear B
  subst hsz
  have hS : va_S (rc_A sh s.heap.size) s.heap s.heap [] := va_S.rf
  have hl := lv_entry ([.ref a0, .int u1, .int u2]) (n := 4) (Nat.le_of_ble_eq_true rfl)
  rw [lg_entry_eq]
  generalize (lg_sl ([.ref a0, .int u1, .int u2]) ++ List.replicate (4 - (lg_sl ([.ref a0, .int u1, .int u2])).length) Slot.unset).toArray = ls at hl ⊢
  have hl : lv_has ls 4 [(0, .ref a0), (1, .int u1), (2, .int u2)] := hl
  unfold f_X9_noteOf at hm
  refine lv_aload_n hx hb dX9_noteOf_0 rfl (lv_at hl 0 rfl) ?_
  refine lv_iload_n hx hb dX9_noteOf_1 rfl (lv_at hl 1 rfl) ?_
  refine lv_iconst (v := 1) hx hb dX9_noteOf_2 (by decide) ?_
  obtain ⟨w_1, σ_1, hc_1, hm0⟩ := rc_bd_inv hm
  clear hm
  refine rc_ci hS (va_runV (As := [.int u1, .int (1 : Int32)]) (rest := []) ⟨hx, hb, hml, hown, hts⟩ (k_X9_of l hT a0 u1 (1 : Int32) h0 s.heap.size _ _ _ hc_1) (cwV 2 hts (rc_gV tw_7_115 tw_7_117 tw_p_20 tw_1_14 tw_7_118) rfl rfl rfl (by decide +kernel) ⟨Nat.le_of_ble_eq_true rfl, Nat.le_of_ble_eq_true rfl⟩) (rc_preV hT hW hK hE hS h0 (by decide) rfl (q := (RX9, TX9, 22)) rfl [.int u1, .int (1 : Int32)]) rfl rfl hl.1 rfl (lv_room (Nat.le_of_ble_eq_true rfl)) dX9_noteOf_3 ⟨Nat.le_of_ble_eq_true rfl, Nat.le_of_ble_eq_true rfl⟩) (fun H locs hW hS => ?_)
  have hm := hm0
  clear hm0 hc_1
  refine lv_if_ne (tgt := 11) hx hb dX9_noteOf_6 (by decide) (fun c_8 => ?_) (fun c_8 => ?_)
  · replace hm := rc_f hm c_8
    refine lv_aload_n hx hb dX9_noteOf_11 rfl (lv_at hl 0 rfl) ?_
    refine lv_iload_n hx hb dX9_noteOf_12 rfl (lv_at hl 1 rfl) ?_
    refine lv_iconst (v := 4) hx hb dX9_noteOf_13 (by decide) ?_
    obtain ⟨w_2, σ_2, hc_2, hm0⟩ := rc_bd_inv hm
    clear hm
    refine rc_ci hS (va_runV (As := [.int u1, .int (4 : Int32)]) (rest := []) ⟨hx, hb, hml, hown, hts⟩ (k_X9_of l hT a0 u1 (4 : Int32) h0 H.size _ _ _ hc_2) (cwV 2 hts (rc_gV tw_7_115 tw_7_117 tw_p_20 tw_1_14 tw_7_118) rfl rfl rfl (by decide +kernel) ⟨Nat.le_of_ble_eq_true rfl, Nat.le_of_ble_eq_true rfl⟩) (rc_preV hT hW hK hE hS h0 (by decide) rfl (q := (RX9, TX9, 22)) rfl [.int u1, .int (4 : Int32)]) rfl rfl hl.1 rfl (lv_room (Nat.le_of_ble_eq_true rfl)) dX9_noteOf_14 ⟨Nat.le_of_ble_eq_true rfl, Nat.le_of_ble_eq_true rfl⟩) (fun H locs hW hS => ?_)
    have hm := hm0
    clear hm0 hc_2
    refine lv_aload_n hx hb dX9_noteOf_17 rfl (lv_at hl 0 rfl) ?_
    refine lv_iload_n hx hb dX9_noteOf_18 rfl (lv_at hl 1 rfl) ?_
    obtain ⟨w_3, σ_3, hc_3, hm0⟩ := rc_bd_inv hm
    clear hm
    refine rc_ci hS (va_runV (As := [.int u1]) (rest := [.int w_2]) ⟨hx, hb, hml, hown, hts⟩ (k_X9_ageOf l hT a0 u1 h0 H.size _ _ _ hc_3) (cwV 1 hts (rc_gV tw_7_238 tw_8_0 tw_p_43 tw_1_14 tw_8_1) rfl rfl rfl (by decide +kernel) ⟨Nat.le_of_ble_eq_true rfl, Nat.le_of_ble_eq_true rfl⟩) (rc_preV hT hW hK hE hS h0 (by decide) rfl (q := (RX9, TX9, 22)) rfl [.int u1]) rfl rfl hl.1 rfl (lv_room (Nat.le_of_ble_eq_true rfl)) dX9_noteOf_19 ⟨Nat.le_of_ble_eq_true rfl, Nat.le_of_ble_eq_true rfl⟩) (fun H locs hW hS => ?_)
    have hm := hm0
    clear hm0 hc_3
    refine lv_iload_n hx hb dX9_noteOf_22 rfl (lv_at hl 2 rfl) ?_
    refine lv_iadd hx hb dX9_noteOf_23 ?_
    refine lv_iconst (v := 2) hx hb dX9_noteOf_24 (by decide) ?_
    refine lv_idiv hx hb dX9_noteOf_25 (by decide) ?_
    refine lv_iadd hx hb dX9_noteOf_26 ?_
    refine lv_topi (fun v3_4 ev => ?_)
    replace hm := rc_lt_at hm ev
    clear ev
    refine lv_istore_n (lv' := [(3, .int v3_4), (0, .ref a0), (1, .int u1), (2, .int u2)]) hx hb dX9_noteOf_27 rfl hl (by decide) rfl (fun ls hl => ?_)
    refine lv_iload_n hx hb dX9_noteOf_28 rfl (lv_at hl 0 rfl) ?_
    refine lv_bipush (v := 9) hx hb dX9_noteOf_29 (by decide) ?_
    refine lv_icmp_le (tgt := 39) hx hb dX9_noteOf_31 (by decide) (fun c_7 => ?_) (fun c_7 => ?_)
    · replace hm := rc_t hm c_7
      refine lv_iload_n hx hb dX9_noteOf_39 rfl (lv_at hl 0 rfl) ?_
      refine lv_bipush (v := 100) hx hb dX9_noteOf_40 (by decide) ?_
      refine lv_aload_n hx hb dX9_noteOf_42 rfl (lv_at hl 1 rfl) ?_
      refine lv_iload_n hx hb dX9_noteOf_43 rfl (lv_at hl 2 rfl) ?_
      obtain ⟨w_5, σ_5, hc_5, hm0⟩ := rc_bd_inv hm
      clear hm
      refine rc_ci hS (va_runV (As := [.int u1]) (rest := [.int (100 : Int32), .int v3_4]) ⟨hx, hb, hml, hown, hts⟩ (k_X9_part l hT a0 u1 h0 H.size _ _ _ hc_5) (cwV 1 hts (rc_gV tw_7_179 tw_7_181 tw_p_33 tw_1_14 tw_7_182) rfl rfl rfl (by decide +kernel) ⟨Nat.le_of_ble_eq_true rfl, Nat.le_of_ble_eq_true rfl⟩) (rc_preV hT hW hK hE hS h0 (by decide) rfl (q := (RX9, TX9, 22)) rfl [.int u1]) rfl rfl hl.1 rfl (lv_room (Nat.le_of_ble_eq_true rfl)) dX9_noteOf_44 ⟨Nat.le_of_ble_eq_true rfl, Nat.le_of_ble_eq_true rfl⟩) (fun H locs hW hS => ?_)
      have hm := hm0
      clear hm0 hc_5
      refine lv_isub hx hb dX9_noteOf_47 ?_
      refine lv_imul hx hb dX9_noteOf_48 ?_
      refine lv_bipush (v := 100) hx hb dX9_noteOf_49 (by decide) ?_
      refine lv_idiv hx hb dX9_noteOf_51 (by decide) ?_
      exact rc_eiret hx hb hr hlocks hW hS (Nat.le_of_ble_eq_true rfl) (Nat.le_of_ble_eq_true rfl) hm dX9_noteOf_52
    · replace hm := rc_f hm c_7
      refine lv_bipush (v := 9) hx hb dX9_noteOf_34 (by decide) ?_
      refine lv_goto (tgt := 40) hx hb dX9_noteOf_36 (by decide) ?_
      refine lv_bipush (v := 100) hx hb dX9_noteOf_40 (by decide) ?_
      refine lv_aload_n hx hb dX9_noteOf_42 rfl (lv_at hl 1 rfl) ?_
      refine lv_iload_n hx hb dX9_noteOf_43 rfl (lv_at hl 2 rfl) ?_
      obtain ⟨w_6, σ_6, hc_6, hm0⟩ := rc_bd_inv hm
      clear hm
      refine rc_ci hS (va_runV (As := [.int u1]) (rest := [.int (100 : Int32), .int (9 : Int32)]) ⟨hx, hb, hml, hown, hts⟩ (k_X9_part l hT a0 u1 h0 H.size _ _ _ hc_6) (cwV 1 hts (rc_gV tw_7_179 tw_7_181 tw_p_33 tw_1_14 tw_7_182) rfl rfl rfl (by decide +kernel) ⟨Nat.le_of_ble_eq_true rfl, Nat.le_of_ble_eq_true rfl⟩) (rc_preV hT hW hK hE hS h0 (by decide) rfl (q := (RX9, TX9, 22)) rfl [.int u1]) rfl rfl hl.1 rfl (lv_room (Nat.le_of_ble_eq_true rfl)) dX9_noteOf_44 ⟨Nat.le_of_ble_eq_true rfl, Nat.le_of_ble_eq_true rfl⟩) (fun H locs hW hS => ?_)
      have hm := hm0
      clear hm0 hc_6
      refine lv_isub hx hb dX9_noteOf_47 ?_
      refine lv_imul hx hb dX9_noteOf_48 ?_
      refine lv_bipush (v := 100) hx hb dX9_noteOf_49 (by decide) ?_
      refine lv_idiv hx hb dX9_noteOf_51 (by decide) ?_
      exact rc_eiret hx hb hr hlocks hW hS (Nat.le_of_ble_eq_true rfl) (Nat.le_of_ble_eq_true rfl) hm dX9_noteOf_52
  · replace hm := rc_t hm c_8
    refine lv_iconst (v := 0) hx hb dX9_noteOf_9 (by decide) ?_
    exact rc_eiret hx hb hr hlocks hW hS (Nat.le_of_ble_eq_true rfl) (Nat.le_of_ble_eq_true rfl) hm dX9_noteOf_10
set_option maxHeartbeats 4000000 in
set_option maxRecDepth 100000 in
theorem k_X9_notes (l : Launch) {Y : rc_Y} {sh : Nat → Nat} {rf : rc_F} (hT : rc_T Y sh rf) (a0 : Nat) (u1 : Int32) (u2 : Int32) (h0 : sh a0 = 10) (sz : Nat) (σ σ' : rc_S) (r : Int32) (hm : f_X9_notes rf a0 u1 u2 σ = some (r, σ')) : Met l yX9_notes (Cond.code yX9_notes cX9_notes 4 (some .boolean) :: rc_big) ({ frames := 0, cells := 0, slots := 0, locals := 0 } : Room) (rc_P Y sh rf σ sz [.ref a0, .int u1, .int u2]) (va_Qi (fun (r' : Int32) (_ : Unit) => r' = r) (fun _ t => rc_W Y sh rf σ' t.heap) (rc_A sh sz)) 0 0 (rc_A sh sz) := by
  refine Met.ofW (cc := cX9_notes) (maxL := 4) (ret := (some .boolean)) (by decide +kernel) rfl ?_
  intro p e s m args below meth c s₁ B hml hv
  obtain ⟨rfl, hsz, hW, hK, hE⟩ := hv
  have hx := B.exec
  have hb := B.bytes
  have hr := B.returns
  have hts : ∀ w ∈ rc_big, w.before _ s = true := fun w h => atoms_spec (ws := Cond.code yX9_notes cX9_notes 4 (some .boolean) :: rc_big) B.pre w (List.mem_cons_of_mem _ h)
  have hown : s.vm.findClass RX9 = some m.cls := findClass_of_methodNamed B.named
  have hlocks := B.notSynchronized
  clear B
  subst hsz
  have hS : va_S (rc_A sh s.heap.size) s.heap s.heap [] := va_S.rf
  have hl := lv_entry ([.ref a0, .int u1, .int u2]) (n := 4) (Nat.le_of_ble_eq_true rfl)
  rw [lg_entry_eq]
  generalize (lg_sl ([.ref a0, .int u1, .int u2]) ++ List.replicate (4 - (lg_sl ([.ref a0, .int u1, .int u2])).length) Slot.unset).toArray = ls at hl ⊢
  have hl : lv_has ls 4 [(0, .ref a0), (1, .int u1), (2, .int u2)] := hl
  unfold f_X9_notes at hm
  refine lv_aload_n hx hb dX9_notes_0 rfl (lv_at hl 0 rfl) ?_
  refine rg_10_1 hx hb hts hown hK hW h0 tw_7_22 dX9_notes_1 ?_
  refine lv_bipush (v := 63) hx hb dX9_notes_4 (by decide) ?_
  refine lv_iconst (v := 2) hx hb dX9_notes_6 (by decide) ?_
  refine lv_iload_n hx hb dX9_notes_7 rfl (lv_at hl 1 rfl) ?_
  refine lv_imul hx hb dX9_notes_8 ?_
  refine lv_iadd hx hb dX9_notes_9 ?_
  have hi_1 := (rc_ix hm).1
  replace hm := (rc_ix hm).2
  refine rc_ialdj (j := ((63 : Int32) + ((2 : Int32) * u1)).toNatClampNeg) hx hb hK hW (rc_t_10_1 hT h0) (by decide) rfl hi_1 rfl dX9_notes_10 ?_
  refine lv_iconst (v := 2) hx hb dX9_notes_11 (by decide) ?_
  refine lv_aload_n hx hb dX9_notes_12 rfl (lv_at hl 0 rfl) ?_
  refine rg_10_1 hx hb hts hown hK hW h0 tw_7_22 dX9_notes_13 ?_
  refine lv_bipush (v := 63) hx hb dX9_notes_16 (by decide) ?_
  refine lv_iconst (v := 2) hx hb dX9_notes_18 (by decide) ?_
  refine lv_iload_n hx hb dX9_notes_19 rfl (lv_at hl 1 rfl) ?_
  refine lv_imul hx hb dX9_notes_20 ?_
  refine lv_iadd hx hb dX9_notes_21 ?_
  refine lv_iconst (v := 1) hx hb dX9_notes_22 (by decide) ?_
  refine lv_iadd hx hb dX9_notes_23 ?_
  have hi_2 := (rc_ix hm).1
  replace hm := (rc_ix hm).2
  refine rc_ialdj (j := (((63 : Int32) + ((2 : Int32) * u1)) + (1 : Int32)).toNatClampNeg) hx hb hK hW (rc_t_10_1 hT h0) (by decide) rfl hi_2 rfl dX9_notes_24 ?_
  refine lv_imul hx hb dX9_notes_25 ?_
  refine lv_iadd hx hb dX9_notes_26 ?_
  refine lv_topi (fun v3_3 ev => ?_)
  replace hm := rc_lt_at hm ev
  clear ev
  refine lv_istore_n (lv' := [(3, .int v3_3), (0, .ref a0), (1, .int u1), (2, .int u2)]) hx hb dX9_notes_27 rfl hl (by decide) rfl (fun ls hl => ?_)
  refine lv_iload_n hx hb dX9_notes_28 rfl (lv_at hl 3 rfl) ?_
  refine lv_if_le (tgt := 46) hx hb dX9_notes_29 (by decide) (fun c_5 => ?_) (fun c_5 => ?_)
  · replace hm := rc_t hm c_5
    refine lv_iconst (v := 0) hx hb dX9_notes_46 (by decide) ?_
    exact rc_ezret hx hb hr hlocks hW hS (Nat.le_of_ble_eq_true rfl) (Nat.le_of_ble_eq_true rfl) rfl hm dX9_notes_47
  · replace hm := rc_f hm c_5
    refine lv_iload_n hx hb dX9_notes_32 rfl (lv_at hl 3 rfl) ?_
    refine lv_bipush (v := 50) hx hb dX9_notes_33 (by decide) ?_
    refine lv_iconst (v := 5) hx hb dX9_notes_35 (by decide) ?_
    refine lv_iload_n hx hb dX9_notes_36 rfl (lv_at hl 0 rfl) ?_
    refine lv_imul hx hb dX9_notes_37 ?_
    refine lv_isub hx hb dX9_notes_38 ?_
    refine lv_icmp_le (tgt := 46) hx hb dX9_notes_39 (by decide) (fun c_4 => ?_) (fun c_4 => ?_)
    · replace hm := rc_t hm c_4
      refine lv_iconst (v := 0) hx hb dX9_notes_46 (by decide) ?_
      exact rc_ezret hx hb hr hlocks hW hS (Nat.le_of_ble_eq_true rfl) (Nat.le_of_ble_eq_true rfl) rfl hm dX9_notes_47
    · replace hm := rc_f hm c_4
      refine lv_iconst (v := 1) hx hb dX9_notes_42 (by decide) ?_
      refine lv_goto (tgt := 47) hx hb dX9_notes_43 (by decide) ?_
      exact rc_ezret hx hb hr hlocks hW hS (Nat.le_of_ble_eq_true rfl) (Nat.le_of_ble_eq_true rfl) rfl hm dX9_notes_47
set_option maxHeartbeats 4000000 in
set_option maxRecDepth 100000 in
theorem k_X9_noses (l : Launch) {Y : rc_Y} {sh : Nat → Nat} {rf : rc_F} (hT : rc_T Y sh rf) (a0 : Nat) (u1 : Int32) (h0 : sh a0 = 10) (sz : Nat) (σ σ' : rc_S) (r : Int32) (hm : f_X9_noses rf a0 u1 σ = some (r, σ')) : Met l yX9_noses (Cond.code yX9_noses cX9_noses 4 (some .int) :: rc_big) ({ frames := 1, cells := 0, slots := 0, locals := 23 } : Room) (rc_P Y sh rf σ sz [.ref a0, .int u1]) (va_Qi (fun (r' : Int32) (_ : Unit) => r' = r) (fun _ t => rc_W Y sh rf σ' t.heap) (rc_A sh sz)) 0 0 (rc_A sh sz) := by
  refine Met.ofW (cc := cX9_noses) (maxL := 4) (ret := (some .int)) (by decide +kernel) rfl ?_
  intro p e s m args below meth c s₁ B hml hv
  obtain ⟨rfl, hsz, hW, hK, hE⟩ := hv
  have hx := B.exec
  have hb := B.bytes
  have hr := B.returns
  have hts : ∀ w ∈ rc_big, w.before _ s = true := fun w h => atoms_spec (ws := Cond.code yX9_noses cX9_noses 4 (some .int) :: rc_big) B.pre w (List.mem_cons_of_mem _ h)
  have hown : s.vm.findClass RX9 = some m.cls := findClass_of_methodNamed B.named
  have hlocks := B.notSynchronized
  clear B
  subst hsz
  have hS : va_S (rc_A sh s.heap.size) s.heap s.heap [] := va_S.rf
  have hl := lv_entry ([.ref a0, .int u1]) (n := 4) (Nat.le_of_ble_eq_true rfl)
  rw [lg_entry_eq]
  generalize (lg_sl ([.ref a0, .int u1]) ++ List.replicate (4 - (lg_sl ([.ref a0, .int u1])).length) Slot.unset).toArray = ls at hl ⊢
  have hl : lv_has ls 4 [(0, .ref a0), (1, .int u1)] := hl
  have lp_4 : ∀ (v1 : Int32) (K : Int32 → Int32 → rc_S → Option (Int32 × rc_S)) (hKK : ∀ (v2 v3 : Int32) (σ : rc_S) (H : Heap) (locs : List Loc) (ls : Array Slot), K v2 v3 σ = some (r, σ') → rc_W Y sh rf σ H → va_S (rc_A sh s.heap.size) s.heap H locs → lv_has ls 4 [(2, .int v2)] → W p l e (headSpec (Cond.code yX9_noses cX9_noses 4 (some .int) :: rc_big) ({ frames := 1, cells := 0, slots := 0, locals := 23 } : Room)).room s m (([.ref a0, .int u1] : List Value).toArray) below meth c H locs 0 0 (MQ below (va_Qi (fun (r' : Int32) (_ : Unit) => r' = r) (fun _ t => rc_W Y sh rf σ' t.heap) (rc_A sh s.heap.size)) ([.ref a0, .int u1] : List Value).toArray s 0 0 (rc_A sh s.heap.size)) (F0 m 39 ls [])) (n : Nat) (v2 v3 : Int32) (σ : rc_S) (H : Heap) (locs : List Loc) (ls : Array Slot), f_X9_noses_4 rf a0 v1 K n v2 v3 σ = some (r, σ') → rc_W Y sh rf σ H → va_S (rc_A sh s.heap.size) s.heap H locs → lv_has ls 4 [(0, .ref a0), (1, .int v1), (2, .int v2), (3, .int v3)] → W p l e (headSpec (Cond.code yX9_noses cX9_noses 4 (some .int) :: rc_big) ({ frames := 1, cells := 0, slots := 0, locals := 23 } : Room)).room s m (([.ref a0, .int u1] : List Value).toArray) below meth c H locs 0 0 (MQ below (va_Qi (fun (r' : Int32) (_ : Unit) => r' = r) (fun _ t => rc_W Y sh rf σ' t.heap) (rc_A sh s.heap.size)) ([.ref a0, .int u1] : List Value).toArray s 0 0 (rc_A sh s.heap.size)) (F0 m 4 ls []) := by
    intro v1 K hKK n
    induction n with
    | zero =>
      intro v2 v3 σ H locs ls hm
      rw [f_X9_noses_4] at hm
      cases hm
    | succ n ih =>
      intro v2 v3 σ H locs ls hm hW hS hl
      rw [f_X9_noses_4] at hm
      refine lv_iload_n hx hb dX9_noses_4 rfl (lv_at hl 3 rfl) ?_
      refine lv_aload_n hx hb dX9_noses_5 rfl (lv_at hl 0 rfl) ?_
      refine rg_10_1 hx hb hts hown hK hW h0 tw_7_22 dX9_noses_6 ?_
      refine lv_iconst (v := 1) hx hb dX9_noses_9 (by decide) ?_
      refine rc_ialdj (j := 1) hx hb hK hW (rc_t_10_1 hT h0) (by decide) rfl (rc_inD (by decide)) (by decide) dX9_noses_10 ?_
      refine lv_icmp_ge (tgt := 39) hx hb dX9_noses_11 (by decide) (fun c_7 => ?_) (fun c_7 => ?_)
      · replace hm := rc_t hm c_7
        exact hKK v2 v3 σ _ _ _ hm hW hS (lv_sub hl [2] rfl)
      · replace hm := rc_f hm c_7
        refine lv_iload_n hx hb dX9_noses_14 rfl (lv_at hl 2 rfl) ?_
        refine lv_aload_n hx hb dX9_noses_15 rfl (lv_at hl 0 rfl) ?_
        refine lv_iload_n hx hb dX9_noses_16 rfl (lv_at hl 3 rfl) ?_
        refine lv_iload_n hx hb dX9_noses_17 rfl (lv_at hl 1 rfl) ?_
        obtain ⟨w_1, σ_1, hc_1, hm0⟩ := rc_bd_inv hm
        clear hm
        refine rc_ci hS (va_runV (As := [.int v3, .int v1]) (rest := [.int v2]) ⟨hx, hb, hml, hown, hts⟩ (k_X9_notes l hT a0 v3 v1 h0 H.size _ _ _ hc_1) (cwV 2 hts (rc_gV tw_7_230 tw_7_232 tw_p_41 tw_1_14 tw_7_233) rfl rfl rfl (by decide +kernel) ⟨Nat.le_of_ble_eq_true rfl, Nat.le_of_ble_eq_true rfl⟩) (rc_preV hT hW hK hE hS h0 (by decide) rfl (q := (RX9, TX9, 22)) rfl [.int v3, .int v1]) rfl rfl hl.1 rfl (lv_room (Nat.le_of_ble_eq_true rfl)) dX9_noses_18 ⟨Nat.le_of_ble_eq_true rfl, Nat.le_of_ble_eq_true rfl⟩) (fun H locs hW hS => ?_)
        have hm := hm0
        clear hm0 hc_1
        refine lv_if_eq (tgt := 30) hx hb dX9_noses_21 (by decide) (fun c_6 => ?_) (fun c_6 => ?_)
        · replace hm := rc_t hm c_6
          refine lv_iconst (v := 0) hx hb dX9_noses_30 (by decide) ?_
          refine lv_ior hx hb dX9_noses_31 ?_
          refine lv_topi (fun v2_2 ev => ?_)
          replace hm := rc_lt_at hm ev
          clear ev
          refine lv_istore_n (lv' := [(2, .int v2_2), (0, .ref a0), (1, .int v1), (3, .int v3)]) hx hb dX9_noses_32 rfl hl (by decide) rfl (fun ls hl => ?_)
          obtain ⟨v3_3, ev⟩ : ∃ y : Int32, y = (v3 + 1) := ⟨_, rfl⟩
          replace hm := rc_lt_at hm ev
          refine lv_iinc (v := v3_3) (lv' := [(3, .int v3_3), (2, .int v2_2), (0, .ref a0), (1, .int v1)]) hx hb dX9_noses_33 hl (k := 3) rfl (by rw [ev]; rfl) (by decide) rfl (fun ls hl => ?_)
          clear ev
          refine lv_goto (tgt := 4) hx hb dX9_noses_36 (by decide) ?_
          exact ih v2_2 v3_3 σ_1 _ _ _ hm hW hS (lv_sub hl [2, 3, 1, 0] rfl)
        · replace hm := rc_f hm c_6
          refine lv_iconst (v := 1) hx hb dX9_noses_24 (by decide) ?_
          refine lv_iload_n hx hb dX9_noses_25 rfl (lv_at hl 3 rfl) ?_
          refine lv_ishl hx hb dX9_noses_26 ?_
          refine lv_goto (tgt := 31) hx hb dX9_noses_27 (by decide) ?_
          refine lv_ior hx hb dX9_noses_31 ?_
          refine lv_topi (fun v2_4 ev => ?_)
          replace hm := rc_lt_at hm ev
          clear ev
          refine lv_istore_n (lv' := [(2, .int v2_4), (0, .ref a0), (1, .int v1), (3, .int v3)]) hx hb dX9_noses_32 rfl hl (by decide) rfl (fun ls hl => ?_)
          obtain ⟨v3_5, ev⟩ : ∃ y : Int32, y = (v3 + 1) := ⟨_, rfl⟩
          replace hm := rc_lt_at hm ev
          refine lv_iinc (v := v3_5) (lv' := [(3, .int v3_5), (2, .int v2_4), (0, .ref a0), (1, .int v1)]) hx hb dX9_noses_33 hl (k := 3) rfl (by rw [ev]; rfl) (by decide) rfl (fun ls hl => ?_)
          clear ev
          refine lv_goto (tgt := 4) hx hb dX9_noses_36 (by decide) ?_
          exact ih v2_4 v3_5 σ_1 _ _ _ hm hW hS (lv_sub hl [2, 3, 1, 0] rfl)
  unfold f_X9_noses at hm
  refine lv_iconst (v := 0) hx hb dX9_noses_0 (by decide) ?_
  refine lv_istore_n (lv' := [(2, .int (0 : Int32)), (0, .ref a0), (1, .int u1)]) hx hb dX9_noses_1 rfl hl (by decide) rfl (fun ls hl => ?_)
  refine lv_iconst (v := 0) hx hb dX9_noses_2 (by decide) ?_
  refine lv_istore_n (lv' := [(3, .int (0 : Int32)), (2, .int (0 : Int32)), (0, .ref a0), (1, .int u1)]) hx hb dX9_noses_3 rfl hl (by decide) rfl (fun ls hl => ?_)
  refine lp_4 u1 _ (fun v2_8 v3_9 σ_10 H locs ls hm hW hS hl => ?_) rc_fu (0 : Int32) (0 : Int32) σ _ _ _ hm hW hS (lv_sub hl [2, 3, 1, 0] rfl)
  refine lv_iload_n hx hb dX9_noses_39 rfl (lv_at hl 0 rfl) ?_
  exact rc_eiret hx hb hr hlocks hW hS (Nat.le_of_ble_eq_true rfl) (Nat.le_of_ble_eq_true rfl) hm dX9_noses_40
set_option maxHeartbeats 4000000 in
set_option maxRecDepth 100000 in
theorem k_X9_hailIn (l : Launch) {Y : rc_Y} {sh : Nat → Nat} {rf : rc_F} (hT : rc_T Y sh rf) (a0 : Nat) (u1 : Int32) (u2 : Int32) (h0 : sh a0 = 10) (sz : Nat) (σ σ' : rc_S) (r : Int32) (hm : f_X9_hailIn rf a0 u1 u2 σ = some (r, σ')) : Met l yX9_hailIn (Cond.code yX9_hailIn cX9_hailIn 5 (some .int) :: rc_big) ({ frames := 2, cells := 0, slots := 0, locals := 43 } : Room) (rc_P Y sh rf σ sz [.ref a0, .int u1, .int u2]) (va_Qi (fun (r' : Int32) (_ : Unit) => r' = r) (fun _ t => rc_W Y sh rf σ' t.heap) (rc_A sh sz)) 0 0 (rc_A sh sz) := by
  refine Met.ofW (cc := cX9_hailIn) (maxL := 5) (ret := (some .int)) (by decide +kernel) rfl ?_
  intro p e s m args below meth c s₁ B hml hv
  obtain ⟨rfl, hsz, hW, hK, hE⟩ := hv
  have hx := B.exec
  have hb := B.bytes
  have hr := B.returns
  have hts : ∀ w ∈ rc_big, w.before _ s = true := fun w h => atoms_spec (ws := Cond.code yX9_hailIn cX9_hailIn 5 (some .int) :: rc_big) B.pre w (List.mem_cons_of_mem _ h)
  have hown : s.vm.findClass RX9 = some m.cls := findClass_of_methodNamed B.named
  have hlocks := B.notSynchronized
  clear B
  subst hsz
  have hS : va_S (rc_A sh s.heap.size) s.heap s.heap [] := va_S.rf
  have hl := lv_entry ([.ref a0, .int u1, .int u2]) (n := 5) (Nat.le_of_ble_eq_true rfl)
  rw [lg_entry_eq]
  generalize (lg_sl ([.ref a0, .int u1, .int u2]) ++ List.replicate (5 - (lg_sl ([.ref a0, .int u1, .int u2])).length) Slot.unset).toArray = ls at hl ⊢
  have hl : lv_has ls 5 [(0, .ref a0), (1, .int u1), (2, .int u2)] := hl
  unfold f_X9_hailIn at hm
  refine lv_aload_n hx hb dX9_hailIn_0 rfl (lv_at hl 0 rfl) ?_
  refine lv_iload_n hx hb dX9_hailIn_1 rfl (lv_at hl 1 rfl) ?_
  obtain ⟨w_1, σ_1, hc_1, hm0⟩ := rc_bd_inv hm
  clear hm
  refine rc_ci hS (va_runV (As := [.int u1]) (rest := []) ⟨hx, hb, hml, hown, hts⟩ (k_X9_part l hT a0 u1 h0 s.heap.size _ _ _ hc_1) (cwV 1 hts (rc_gV tw_7_179 tw_7_181 tw_p_33 tw_1_14 tw_7_182) rfl rfl rfl (by decide +kernel) ⟨Nat.le_of_ble_eq_true rfl, Nat.le_of_ble_eq_true rfl⟩) (rc_preV hT hW hK hE hS h0 (by decide) rfl (q := (RX9, TX9, 22)) rfl [.int u1]) rfl rfl hl.1 rfl (lv_room (Nat.le_of_ble_eq_true rfl)) dX9_hailIn_2 ⟨Nat.le_of_ble_eq_true rfl, Nat.le_of_ble_eq_true rfl⟩) (fun H locs hW hS => ?_)
  have hm := hm0
  clear hm0 hc_1
  refine lv_iload_n hx hb dX9_hailIn_5 rfl (lv_at hl 2 rfl) ?_
  refine lv_imul hx hb dX9_hailIn_6 ?_
  refine lv_bipush (v := 100) hx hb dX9_hailIn_7 (by decide) ?_
  refine lv_idiv hx hb dX9_hailIn_9 (by decide) ?_
  refine lv_topi (fun v3_2 ev => ?_)
  replace hm := rc_lt_at hm ev
  clear ev
  refine lv_istore_n (lv' := [(3, .int v3_2), (0, .ref a0), (1, .int u1), (2, .int u2)]) hx hb dX9_hailIn_10 rfl hl (by decide) rfl (fun ls hl => ?_)
  refine lv_iload_n hx hb dX9_hailIn_11 rfl (lv_at hl 3 rfl) ?_
  refine lv_aload_n hx hb dX9_hailIn_12 rfl (lv_at hl 1 rfl) ?_
  refine lv_iload_n hx hb dX9_hailIn_13 rfl (lv_at hl 2 rfl) ?_
  refine lv_iconst (v := 1) hx hb dX9_hailIn_14 (by decide) ?_
  obtain ⟨w_3, σ_3, hc_3, hm0⟩ := rc_bd_inv hm
  clear hm
  refine rc_ci hS (va_runV (As := [.int u1, .int (1 : Int32)]) (rest := [.int u2]) ⟨hx, hb, hml, hown, hts⟩ (k_X9_of l hT a0 u1 (1 : Int32) h0 H.size _ _ _ hc_3) (cwV 2 hts (rc_gV tw_7_115 tw_7_117 tw_p_20 tw_1_14 tw_7_118) rfl rfl rfl (by decide +kernel) ⟨Nat.le_of_ble_eq_true rfl, Nat.le_of_ble_eq_true rfl⟩) (rc_preV hT hW hK hE hS h0 (by decide) rfl (q := (RX9, TX9, 22)) rfl [.int u1, .int (1 : Int32)]) rfl rfl hl.1 rfl (lv_room (Nat.le_of_ble_eq_true rfl)) dX9_hailIn_15 ⟨Nat.le_of_ble_eq_true rfl, Nat.le_of_ble_eq_true rfl⟩) (fun H locs hW hS => ?_)
  have hm := hm0
  clear hm0 hc_3
  refine lv_aload_n hx hb dX9_hailIn_18 rfl (lv_at hl 1 rfl) ?_
  refine lv_iload_n hx hb dX9_hailIn_19 rfl (lv_at hl 2 rfl) ?_
  refine lv_iconst (v := 2) hx hb dX9_hailIn_20 (by decide) ?_
  obtain ⟨w_4, σ_4, hc_4, hm0⟩ := rc_bd_inv hm
  clear hm
  refine rc_ci hS (va_runV (As := [.int u1, .int (2 : Int32)]) (rest := [.int w_3, .int u2]) ⟨hx, hb, hml, hown, hts⟩ (k_X9_of l hT a0 u1 (2 : Int32) h0 H.size _ _ _ hc_4) (cwV 2 hts (rc_gV tw_7_115 tw_7_117 tw_p_20 tw_1_14 tw_7_118) rfl rfl rfl (by decide +kernel) ⟨Nat.le_of_ble_eq_true rfl, Nat.le_of_ble_eq_true rfl⟩) (rc_preV hT hW hK hE hS h0 (by decide) rfl (q := (RX9, TX9, 22)) rfl [.int u1, .int (2 : Int32)]) rfl rfl hl.1 rfl (lv_room (Nat.le_of_ble_eq_true rfl)) dX9_hailIn_21 ⟨Nat.le_of_ble_eq_true rfl, Nat.le_of_ble_eq_true rfl⟩) (fun H locs hW hS => ?_)
  have hm := hm0
  clear hm0 hc_4
  refine lv_isub hx hb dX9_hailIn_24 ?_
  refine lv_isub hx hb dX9_hailIn_25 ?_
  refine lv_topi (fun v4_5 ev => ?_)
  replace hm := rc_lt_at hm ev
  clear ev
  refine lv_istore (lv' := [(4, .int v4_5), (3, .int v3_2), (0, .ref a0), (1, .int u1), (2, .int u2)]) hx hb dX9_hailIn_26 hl (by decide) rfl (fun ls hl => ?_)
  refine lv_iload_n hx hb dX9_hailIn_28 rfl (lv_at hl 1 rfl) ?_
  refine lv_iload hx hb dX9_hailIn_29 (lv_at hl 0 rfl) ?_
  refine lv_icmp_ge (tgt := 39) hx hb dX9_hailIn_31 (by decide) (fun c_6 => ?_) (fun c_6 => ?_)
  · replace hm := rc_t hm c_6
    refine lv_iload_n hx hb dX9_hailIn_39 rfl (lv_at hl 1 rfl) ?_
    exact rc_eiret hx hb hr hlocks hW hS (Nat.le_of_ble_eq_true rfl) (Nat.le_of_ble_eq_true rfl) hm dX9_hailIn_40
  · replace hm := rc_f hm c_6
    refine lv_iload hx hb dX9_hailIn_34 (lv_at hl 0 rfl) ?_
    refine lv_goto (tgt := 40) hx hb dX9_hailIn_36 (by decide) ?_
    exact rc_eiret hx hb hr hlocks hW hS (Nat.le_of_ble_eq_true rfl) (Nat.le_of_ble_eq_true rfl) hm dX9_hailIn_40
set_option maxHeartbeats 4000000 in
set_option maxRecDepth 100000 in
theorem k_X9_empties (l : Launch) {Y : rc_Y} {sh : Nat → Nat} {rf : rc_F} (hT : rc_T Y sh rf) (a0 : Nat) (u1 : Int32) (h0 : sh a0 = 10) (sz : Nat) (σ σ' : rc_S) (r : Unit) (hm : f_X9_empties rf a0 u1 σ = some (r, σ')) : Met l yX9_empties (Cond.code yX9_empties cX9_empties 2 none :: rc_big) ({ frames := 1, cells := 0, slots := 0, locals := 23 } : Room) (rc_P Y sh rf σ sz [.ref a0, .int u1]) (va_Qv (fun (_ : Unit) => True) (fun _ t => rc_W Y sh rf σ' t.heap) (rc_A sh sz)) 0 0 (rc_A sh sz) := by
  refine Met.ofW (cc := cX9_empties) (maxL := 2) (ret := none) (by decide +kernel) rfl ?_
  intro p e s m args below meth c s₁ B hml hv
  obtain ⟨rfl, hsz, hW, hK, hE⟩ := hv
  have hx := B.exec
  have hb := B.bytes
  have hr := B.returns
  have hts : ∀ w ∈ rc_big, w.before _ s = true := fun w h => atoms_spec (ws := Cond.code yX9_empties cX9_empties 2 none :: rc_big) B.pre w (List.mem_cons_of_mem _ h)
  have hown : s.vm.findClass RX9 = some m.cls := findClass_of_methodNamed B.named
  have hlocks := B.notSynchronized
  clear B
  subst hsz
  have hS : va_S (rc_A sh s.heap.size) s.heap s.heap [] := va_S.rf
  have hl := lv_entry ([.ref a0, .int u1]) (n := 2) (Nat.le_of_ble_eq_true rfl)
  rw [lg_entry_eq]
  generalize (lg_sl ([.ref a0, .int u1]) ++ List.replicate (2 - (lg_sl ([.ref a0, .int u1])).length) Slot.unset).toArray = ls at hl ⊢
  have hl : lv_has ls 2 [(0, .ref a0), (1, .int u1)] := hl
  unfold f_X9_empties at hm
  refine lv_aload_n hx hb dX9_empties_0 rfl (lv_at hl 0 rfl) ?_
  refine lv_iload_n hx hb dX9_empties_1 rfl (lv_at hl 1 rfl) ?_
  refine lv_iconst (v := 1) hx hb dX9_empties_2 (by decide) ?_
  refine lv_iconst (v := 0) hx hb dX9_empties_3 (by decide) ?_
  obtain ⟨w_1, σ_1, hc_1, hm0⟩ := rc_bd_inv hm
  clear hm
  refine rc_cv hS (va_runV (As := [.int u1, .int (1 : Int32), .int (0 : Int32)]) (rest := []) ⟨hx, hb, hml, hown, hts⟩ (k_X9_sets l hT a0 u1 (1 : Int32) (0 : Int32) h0 s.heap.size _ _ _ hc_1) (cwV 3 hts (rc_gV tw_7_123 tw_7_125 tw_p_22 tw_1_14 tw_7_126) rfl rfl rfl (by decide +kernel) ⟨Nat.le_of_ble_eq_true rfl, Nat.le_of_ble_eq_true rfl⟩) (rc_preV hT hW hK hE hS h0 (by decide) rfl (q := (RX9, TX9, 22)) rfl [.int u1, .int (1 : Int32), .int (0 : Int32)]) rfl rfl hl.1 rfl (lv_room (Nat.le_of_ble_eq_true rfl)) dX9_empties_4 ⟨Nat.le_of_ble_eq_true rfl, Nat.le_of_ble_eq_true rfl⟩) (fun H locs hW hS => ?_)
  have hm := hm0
  clear hm0 hc_1
  refine lv_aload_n hx hb dX9_empties_7 rfl (lv_at hl 0 rfl) ?_
  refine lv_iload_n hx hb dX9_empties_8 rfl (lv_at hl 1 rfl) ?_
  refine lv_iconst (v := 2) hx hb dX9_empties_9 (by decide) ?_
  refine lv_iconst (v := 0) hx hb dX9_empties_10 (by decide) ?_
  obtain ⟨w_2, σ_2, hc_2, hm0⟩ := rc_bd_inv hm
  clear hm
  refine rc_cv hS (va_runV (As := [.int u1, .int (2 : Int32), .int (0 : Int32)]) (rest := []) ⟨hx, hb, hml, hown, hts⟩ (k_X9_sets l hT a0 u1 (2 : Int32) (0 : Int32) h0 H.size _ _ _ hc_2) (cwV 3 hts (rc_gV tw_7_123 tw_7_125 tw_p_22 tw_1_14 tw_7_126) rfl rfl rfl (by decide +kernel) ⟨Nat.le_of_ble_eq_true rfl, Nat.le_of_ble_eq_true rfl⟩) (rc_preV hT hW hK hE hS h0 (by decide) rfl (q := (RX9, TX9, 22)) rfl [.int u1, .int (2 : Int32), .int (0 : Int32)]) rfl rfl hl.1 rfl (lv_room (Nat.le_of_ble_eq_true rfl)) dX9_empties_11 ⟨Nat.le_of_ble_eq_true rfl, Nat.le_of_ble_eq_true rfl⟩) (fun H locs hW hS => ?_)
  have hm := hm0
  clear hm0 hc_2
  refine lv_aload_n hx hb dX9_empties_14 rfl (lv_at hl 0 rfl) ?_
  refine lv_iload_n hx hb dX9_empties_15 rfl (lv_at hl 1 rfl) ?_
  refine lv_iconst (v := 3) hx hb dX9_empties_16 (by decide) ?_
  refine lv_iconst (v := (-1)) hx hb dX9_empties_17 (by decide) ?_
  obtain ⟨w_3, σ_3, hc_3, hm0⟩ := rc_bd_inv hm
  clear hm
  refine rc_cv hS (va_runV (As := [.int u1, .int (3 : Int32), .int (-1 : Int32)]) (rest := []) ⟨hx, hb, hml, hown, hts⟩ (k_X9_sets l hT a0 u1 (3 : Int32) (-1 : Int32) h0 H.size _ _ _ hc_3) (cwV 3 hts (rc_gV tw_7_123 tw_7_125 tw_p_22 tw_1_14 tw_7_126) rfl rfl rfl (by decide +kernel) ⟨Nat.le_of_ble_eq_true rfl, Nat.le_of_ble_eq_true rfl⟩) (rc_preV hT hW hK hE hS h0 (by decide) rfl (q := (RX9, TX9, 22)) rfl [.int u1, .int (3 : Int32), .int (-1 : Int32)]) rfl rfl hl.1 rfl (lv_room (Nat.le_of_ble_eq_true rfl)) dX9_empties_18 ⟨Nat.le_of_ble_eq_true rfl, Nat.le_of_ble_eq_true rfl⟩) (fun H locs hW hS => ?_)
  have hm := hm0
  clear hm0 hc_3
  refine lv_aload_n hx hb dX9_empties_21 rfl (lv_at hl 0 rfl) ?_
  refine lv_iload_n hx hb dX9_empties_22 rfl (lv_at hl 1 rfl) ?_
  refine lv_iconst (v := 4) hx hb dX9_empties_23 (by decide) ?_
  refine lv_iconst (v := 0) hx hb dX9_empties_24 (by decide) ?_
  obtain ⟨w_4, σ_4, hc_4, hm0⟩ := rc_bd_inv hm
  clear hm
  refine rc_cv hS (va_runV (As := [.int u1, .int (4 : Int32), .int (0 : Int32)]) (rest := []) ⟨hx, hb, hml, hown, hts⟩ (k_X9_sets l hT a0 u1 (4 : Int32) (0 : Int32) h0 H.size _ _ _ hc_4) (cwV 3 hts (rc_gV tw_7_123 tw_7_125 tw_p_22 tw_1_14 tw_7_126) rfl rfl rfl (by decide +kernel) ⟨Nat.le_of_ble_eq_true rfl, Nat.le_of_ble_eq_true rfl⟩) (rc_preV hT hW hK hE hS h0 (by decide) rfl (q := (RX9, TX9, 22)) rfl [.int u1, .int (4 : Int32), .int (0 : Int32)]) rfl rfl hl.1 rfl (lv_room (Nat.le_of_ble_eq_true rfl)) dX9_empties_25 ⟨Nat.le_of_ble_eq_true rfl, Nat.le_of_ble_eq_true rfl⟩) (fun H locs hW hS => ?_)
  have hm := hm0
  clear hm0 hc_4
  refine lv_aload_n hx hb dX9_empties_28 rfl (lv_at hl 0 rfl) ?_
  refine lv_iload_n hx hb dX9_empties_29 rfl (lv_at hl 1 rfl) ?_
  refine lv_iconst (v := 5) hx hb dX9_empties_30 (by decide) ?_
  refine lv_iconst (v := 0) hx hb dX9_empties_31 (by decide) ?_
  obtain ⟨w_5, σ_5, hc_5, hm0⟩ := rc_bd_inv hm
  clear hm
  refine rc_cv hS (va_runV (As := [.int u1, .int (5 : Int32), .int (0 : Int32)]) (rest := []) ⟨hx, hb, hml, hown, hts⟩ (k_X9_sets l hT a0 u1 (5 : Int32) (0 : Int32) h0 H.size _ _ _ hc_5) (cwV 3 hts (rc_gV tw_7_123 tw_7_125 tw_p_22 tw_1_14 tw_7_126) rfl rfl rfl (by decide +kernel) ⟨Nat.le_of_ble_eq_true rfl, Nat.le_of_ble_eq_true rfl⟩) (rc_preV hT hW hK hE hS h0 (by decide) rfl (q := (RX9, TX9, 22)) rfl [.int u1, .int (5 : Int32), .int (0 : Int32)]) rfl rfl hl.1 rfl (lv_room (Nat.le_of_ble_eq_true rfl)) dX9_empties_32 ⟨Nat.le_of_ble_eq_true rfl, Nat.le_of_ble_eq_true rfl⟩) (fun H locs hW hS => ?_)
  have hm := hm0
  clear hm0 hc_5
  exact rc_evret hx hb hr hlocks hW hS (Nat.le_of_ble_eq_true rfl) (Nat.le_of_ble_eq_true rfl) hm dX9_empties_35
set_option maxHeartbeats 4000000 in
set_option maxRecDepth 100000 in
theorem k_X9_goes (l : Launch) {Y : rc_Y} {sh : Nat → Nat} {rf : rc_F} (hT : rc_T Y sh rf) (a0 : Nat) (u1 : Int32) (u2 : Int32) (u3 : Int32) (h0 : sh a0 = 10) (sz : Nat) (σ σ' : rc_S) (r : Unit) (hm : f_X9_goes rf a0 u1 u2 u3 σ = some (r, σ')) : Met l yX9_goes (Cond.code yX9_goes cX9_goes 4 none :: rc_big) ({ frames := 2, cells := 0, slots := 0, locals := 44 } : Room) (rc_P Y sh rf σ sz [.ref a0, .int u1, .int u2, .int u3]) (va_Qv (fun (_ : Unit) => True) (fun _ t => rc_W Y sh rf σ' t.heap) (rc_A sh sz)) 0 0 (rc_A sh sz) := by
  refine Met.ofW (cc := cX9_goes) (maxL := 4) (ret := none) (by decide +kernel) rfl ?_
  intro p e s m args below meth c s₁ B hml hv
  obtain ⟨rfl, hsz, hW, hK, hE⟩ := hv
  have hx := B.exec
  have hb := B.bytes
  have hr := B.returns
  have hts : ∀ w ∈ rc_big, w.before _ s = true := fun w h => atoms_spec (ws := Cond.code yX9_goes cX9_goes 4 none :: rc_big) B.pre w (List.mem_cons_of_mem _ h)
  have hown : s.vm.findClass RX9 = some m.cls := findClass_of_methodNamed B.named
  have hlocks := B.notSynchronized
  clear B
  subst hsz
  have hS : va_S (rc_A sh s.heap.size) s.heap s.heap [] := va_S.rf
  have hl := lv_entry ([.ref a0, .int u1, .int u2, .int u3]) (n := 4) (Nat.le_of_ble_eq_true rfl)
  rw [lg_entry_eq]
  generalize (lg_sl ([.ref a0, .int u1, .int u2, .int u3]) ++ List.replicate (4 - (lg_sl ([.ref a0, .int u1, .int u2, .int u3])).length) Slot.unset).toArray = ls at hl ⊢
  have hl : lv_has ls 4 [(0, .ref a0), (1, .int u1), (2, .int u2), (3, .int u3)] := hl
  unfold f_X9_goes at hm
  refine lv_aload_n hx hb dX9_goes_0 rfl (lv_at hl 0 rfl) ?_
  refine lv_iload_n hx hb dX9_goes_1 rfl (lv_at hl 1 rfl) ?_
  refine lv_iconst (v := 1) hx hb dX9_goes_2 (by decide) ?_
  refine lv_aload_n hx hb dX9_goes_3 rfl (lv_at hl 0 rfl) ?_
  refine lv_iload_n hx hb dX9_goes_4 rfl (lv_at hl 1 rfl) ?_
  refine lv_iconst (v := 1) hx hb dX9_goes_5 (by decide) ?_
  obtain ⟨w_1, σ_1, hc_1, hm0⟩ := rc_bd_inv hm
  clear hm
  refine rc_ci hS (va_runV (As := [.int u1, .int (1 : Int32)]) (rest := [.int (1 : Int32), .int u1, .ref a0]) ⟨hx, hb, hml, hown, hts⟩ (k_X9_of l hT a0 u1 (1 : Int32) h0 s.heap.size _ _ _ hc_1) (cwV 2 hts (rc_gV tw_7_115 tw_7_117 tw_p_20 tw_1_14 tw_7_118) rfl rfl rfl (by decide +kernel) ⟨Nat.le_of_ble_eq_true rfl, Nat.le_of_ble_eq_true rfl⟩) (rc_preV hT hW hK hE hS h0 (by decide) rfl (q := (RX9, TX9, 22)) rfl [.int u1, .int (1 : Int32)]) rfl rfl hl.1 rfl (lv_room (Nat.le_of_ble_eq_true rfl)) dX9_goes_6 ⟨Nat.le_of_ble_eq_true rfl, Nat.le_of_ble_eq_true rfl⟩) (fun H locs hW hS => ?_)
  have hm := hm0
  clear hm0 hc_1
  refine lv_iload_n hx hb dX9_goes_9 rfl (lv_at hl 2 rfl) ?_
  refine lv_isub hx hb dX9_goes_10 ?_
  obtain ⟨w_2, σ_2, hc_2, hm0⟩ := rc_bd_inv hm
  clear hm
  refine rc_cv hS (va_runV (As := [.int u1, .int (1 : Int32), .int (w_1 - u2)]) (rest := []) ⟨hx, hb, hml, hown, hts⟩ (k_X9_sets l hT a0 u1 (1 : Int32) (w_1 - u2) h0 H.size _ _ _ hc_2) (cwV 3 hts (rc_gV tw_7_123 tw_7_125 tw_p_22 tw_1_14 tw_7_126) rfl rfl rfl (by decide +kernel) ⟨Nat.le_of_ble_eq_true rfl, Nat.le_of_ble_eq_true rfl⟩) (rc_preV hT hW hK hE hS h0 (by decide) rfl (q := (RX9, TX9, 22)) rfl [.int u1, .int (1 : Int32), .int (w_1 - u2)]) rfl rfl hl.1 rfl (lv_room (Nat.le_of_ble_eq_true rfl)) dX9_goes_11 ⟨Nat.le_of_ble_eq_true rfl, Nat.le_of_ble_eq_true rfl⟩) (fun H locs hW hS => ?_)
  have hm := hm0
  clear hm0 hc_2
  refine lv_aload_n hx hb dX9_goes_14 rfl (lv_at hl 0 rfl) ?_
  refine lv_iload_n hx hb dX9_goes_15 rfl (lv_at hl 1 rfl) ?_
  refine lv_iconst (v := 2) hx hb dX9_goes_16 (by decide) ?_
  refine lv_aload_n hx hb dX9_goes_17 rfl (lv_at hl 0 rfl) ?_
  refine lv_iload_n hx hb dX9_goes_18 rfl (lv_at hl 1 rfl) ?_
  refine lv_iconst (v := 2) hx hb dX9_goes_19 (by decide) ?_
  obtain ⟨w_3, σ_3, hc_3, hm0⟩ := rc_bd_inv hm
  clear hm
  refine rc_ci hS (va_runV (As := [.int u1, .int (2 : Int32)]) (rest := [.int (2 : Int32), .int u1, .ref a0]) ⟨hx, hb, hml, hown, hts⟩ (k_X9_of l hT a0 u1 (2 : Int32) h0 H.size _ _ _ hc_3) (cwV 2 hts (rc_gV tw_7_115 tw_7_117 tw_p_20 tw_1_14 tw_7_118) rfl rfl rfl (by decide +kernel) ⟨Nat.le_of_ble_eq_true rfl, Nat.le_of_ble_eq_true rfl⟩) (rc_preV hT hW hK hE hS h0 (by decide) rfl (q := (RX9, TX9, 22)) rfl [.int u1, .int (2 : Int32)]) rfl rfl hl.1 rfl (lv_room (Nat.le_of_ble_eq_true rfl)) dX9_goes_20 ⟨Nat.le_of_ble_eq_true rfl, Nat.le_of_ble_eq_true rfl⟩) (fun H locs hW hS => ?_)
  have hm := hm0
  clear hm0 hc_3
  refine lv_iload_n hx hb dX9_goes_23 rfl (lv_at hl 3 rfl) ?_
  refine lv_isub hx hb dX9_goes_24 ?_
  obtain ⟨w_4, σ_4, hc_4, hm0⟩ := rc_bd_inv hm
  clear hm
  refine rc_cv hS (va_runV (As := [.int u1, .int (2 : Int32), .int (w_3 - u3)]) (rest := []) ⟨hx, hb, hml, hown, hts⟩ (k_X9_sets l hT a0 u1 (2 : Int32) (w_3 - u3) h0 H.size _ _ _ hc_4) (cwV 3 hts (rc_gV tw_7_123 tw_7_125 tw_p_22 tw_1_14 tw_7_126) rfl rfl rfl (by decide +kernel) ⟨Nat.le_of_ble_eq_true rfl, Nat.le_of_ble_eq_true rfl⟩) (rc_preV hT hW hK hE hS h0 (by decide) rfl (q := (RX9, TX9, 22)) rfl [.int u1, .int (2 : Int32), .int (w_3 - u3)]) rfl rfl hl.1 rfl (lv_room (Nat.le_of_ble_eq_true rfl)) dX9_goes_25 ⟨Nat.le_of_ble_eq_true rfl, Nat.le_of_ble_eq_true rfl⟩) (fun H locs hW hS => ?_)
  have hm := hm0
  clear hm0 hc_4
  refine lv_aload_n hx hb dX9_goes_28 rfl (lv_at hl 0 rfl) ?_
  refine lv_iload_n hx hb dX9_goes_29 rfl (lv_at hl 1 rfl) ?_
  refine lv_iconst (v := 1) hx hb dX9_goes_30 (by decide) ?_
  obtain ⟨w_5, σ_5, hc_5, hm0⟩ := rc_bd_inv hm
  clear hm
  refine rc_ci hS (va_runV (As := [.int u1, .int (1 : Int32)]) (rest := []) ⟨hx, hb, hml, hown, hts⟩ (k_X9_of l hT a0 u1 (1 : Int32) h0 H.size _ _ _ hc_5) (cwV 2 hts (rc_gV tw_7_115 tw_7_117 tw_p_20 tw_1_14 tw_7_118) rfl rfl rfl (by decide +kernel) ⟨Nat.le_of_ble_eq_true rfl, Nat.le_of_ble_eq_true rfl⟩) (rc_preV hT hW hK hE hS h0 (by decide) rfl (q := (RX9, TX9, 22)) rfl [.int u1, .int (1 : Int32)]) rfl rfl hl.1 rfl (lv_room (Nat.le_of_ble_eq_true rfl)) dX9_goes_31 ⟨Nat.le_of_ble_eq_true rfl, Nat.le_of_ble_eq_true rfl⟩) (fun H locs hW hS => ?_)
  have hm := hm0
  clear hm0 hc_5
  refine lv_if_ne (tgt := 42) hx hb dX9_goes_34 (by decide) (fun c_7 => ?_) (fun c_7 => ?_)
  · replace hm := rc_f hm c_7
    exact rc_evret hx hb hr hlocks hW hS (Nat.le_of_ble_eq_true rfl) (Nat.le_of_ble_eq_true rfl) hm dX9_goes_42
  · replace hm := rc_t hm c_7
    refine lv_aload_n hx hb dX9_goes_37 rfl (lv_at hl 0 rfl) ?_
    refine lv_iload_n hx hb dX9_goes_38 rfl (lv_at hl 1 rfl) ?_
    obtain ⟨w_6, σ_6, hc_6, hm0⟩ := rc_bd_inv hm
    clear hm
    refine rc_cv hS (va_runV (As := [.int u1]) (rest := []) ⟨hx, hb, hml, hown, hts⟩ (k_X9_empties l hT a0 u1 h0 H.size _ _ _ hc_6) (cwV 1 hts (rc_gV tw_7_151 tw_7_153 tw_p_28 tw_1_14 tw_7_154) rfl rfl rfl (by decide +kernel) ⟨Nat.le_of_ble_eq_true rfl, Nat.le_of_ble_eq_true rfl⟩) (rc_preV hT hW hK hE hS h0 (by decide) rfl (q := (RX9, TX9, 22)) rfl [.int u1]) rfl rfl hl.1 rfl (lv_room (Nat.le_of_ble_eq_true rfl)) dX9_goes_39 ⟨Nat.le_of_ble_eq_true rfl, Nat.le_of_ble_eq_true rfl⟩) (fun H locs hW hS => ?_)
    have hm := hm0
    clear hm0 hc_6
    exact rc_evret hx hb hr hlocks hW hS (Nat.le_of_ble_eq_true rfl) (Nat.le_of_ble_eq_true rfl) hm dX9_goes_42
set_option maxHeartbeats 4000000 in
set_option maxRecDepth 100000 in
theorem k_X9_caught (l : Launch) {Y : rc_Y} {sh : Nat → Nat} {rf : rc_F} (hT : rc_T Y sh rf) (a0 : Nat) (u1 : Int32) (u2 : Int32) (h0 : sh a0 = 10) (sz : Nat) (σ σ' : rc_S) (r : Int32) (hm : f_X9_caught rf a0 u1 u2 σ = some (r, σ')) : Met l yX9_caught (Cond.code yX9_caught cX9_caught 5 (some .int) :: rc_big) ({ frames := 1, cells := 0, slots := 0, locals := 22 } : Room) (rc_P Y sh rf σ sz [.ref a0, .int u1, .int u2]) (va_Qi (fun (r' : Int32) (_ : Unit) => r' = r) (fun _ t => rc_W Y sh rf σ' t.heap) (rc_A sh sz)) 0 0 (rc_A sh sz) := by
  refine Met.ofW (cc := cX9_caught) (maxL := 5) (ret := (some .int)) (by decide +kernel) rfl ?_
  intro p e s m args below meth c s₁ B hml hv
  obtain ⟨rfl, hsz, hW, hK, hE⟩ := hv
  have hx := B.exec
  have hb := B.bytes
  have hr := B.returns
  have hts : ∀ w ∈ rc_big, w.before _ s = true := fun w h => atoms_spec (ws := Cond.code yX9_caught cX9_caught 5 (some .int) :: rc_big) B.pre w (List.mem_cons_of_mem _ h)
  have hown : s.vm.findClass RX9 = some m.cls := findClass_of_methodNamed B.named
  have hlocks := B.notSynchronized
  clear B
  subst hsz
  have hS : va_S (rc_A sh s.heap.size) s.heap s.heap [] := va_S.rf
  have hl := lv_entry ([.ref a0, .int u1, .int u2]) (n := 5) (Nat.le_of_ble_eq_true rfl)
  rw [lg_entry_eq]
  generalize (lg_sl ([.ref a0, .int u1, .int u2]) ++ List.replicate (5 - (lg_sl ([.ref a0, .int u1, .int u2])).length) Slot.unset).toArray = ls at hl ⊢
  have hl : lv_has ls 5 [(0, .ref a0), (1, .int u1), (2, .int u2)] := hl
  have lp_9 : ∀ (v1 : Int32) (v2 : Int32) (K : Int32 → Int32 → rc_S → Option (Int32 × rc_S)) (hKK : ∀ (v3 v4 : Int32) (σ : rc_S) (H : Heap) (locs : List Loc) (ls : Array Slot), K v3 v4 σ = some (r, σ') → rc_W Y sh rf σ H → va_S (rc_A sh s.heap.size) s.heap H locs → lv_has ls 5 [(1, .int v1), (2, .int v2), (3, .int v3)] → W p l e (headSpec (Cond.code yX9_caught cX9_caught 5 (some .int) :: rc_big) ({ frames := 1, cells := 0, slots := 0, locals := 22 } : Room)).room s m (([.ref a0, .int u1, .int u2] : List Value).toArray) below meth c H locs 0 0 (MQ below (va_Qi (fun (r' : Int32) (_ : Unit) => r' = r) (fun _ t => rc_W Y sh rf σ' t.heap) (rc_A sh s.heap.size)) ([.ref a0, .int u1, .int u2] : List Value).toArray s 0 0 (rc_A sh s.heap.size)) (F0 m 62 ls [])) (n : Nat) (v3 v4 : Int32) (σ : rc_S) (H : Heap) (locs : List Loc) (ls : Array Slot), f_X9_caught_9 rf a0 v1 v2 K n v3 v4 σ = some (r, σ') → rc_W Y sh rf σ H → va_S (rc_A sh s.heap.size) s.heap H locs → lv_has ls 5 [(0, .ref a0), (1, .int v1), (2, .int v2), (3, .int v3), (4, .int v4)] → W p l e (headSpec (Cond.code yX9_caught cX9_caught 5 (some .int) :: rc_big) ({ frames := 1, cells := 0, slots := 0, locals := 22 } : Room)).room s m (([.ref a0, .int u1, .int u2] : List Value).toArray) below meth c H locs 0 0 (MQ below (va_Qi (fun (r' : Int32) (_ : Unit) => r' = r) (fun _ t => rc_W Y sh rf σ' t.heap) (rc_A sh s.heap.size)) ([.ref a0, .int u1, .int u2] : List Value).toArray s 0 0 (rc_A sh s.heap.size)) (F0 m 9 ls []) := by
    intro v1 v2 K hKK n
    induction n with
    | zero =>
      intro v3 v4 σ H locs ls hm
      rw [f_X9_caught_9] at hm
      cases hm
    | succ n ih =>
      intro v3 v4 σ H locs ls hm hW hS hl
      rw [f_X9_caught_9] at hm
      refine lv_iload hx hb dX9_caught_9 (lv_at hl 4 rfl) ?_
      refine lv_aload_n hx hb dX9_caught_11 rfl (lv_at hl 0 rfl) ?_
      refine rg_10_1 hx hb hts hown hK hW h0 tw_7_22 dX9_caught_12 ?_
      refine lv_iconst (v := 0) hx hb dX9_caught_15 (by decide) ?_
      refine rc_ialdj (j := 0) hx hb hK hW (rc_t_10_1 hT h0) (by decide) rfl (rc_inD (by decide)) (by decide) dX9_caught_16 ?_
      refine lv_icmp_ge (tgt := 62) hx hb dX9_caught_17 (by decide) (fun c_12 => ?_) (fun c_12 => ?_)
      · replace hm := rc_t hm c_12
        exact hKK v3 v4 σ _ _ _ hm hW hS (lv_sub hl [1, 2, 3] rfl)
      · replace hm := rc_f hm c_12
        refine lv_aload_n hx hb dX9_caught_20 rfl (lv_at hl 0 rfl) ?_
        refine lv_iload hx hb dX9_caught_21 (lv_at hl 4 rfl) ?_
        refine lv_iconst (v := 0) hx hb dX9_caught_23 (by decide) ?_
        obtain ⟨w_2, σ_2, hc_2, hm0⟩ := rc_bd_inv hm
        clear hm
        refine rc_ci hS (va_runV (As := [.int v4, .int (0 : Int32)]) (rest := []) ⟨hx, hb, hml, hown, hts⟩ (k_X9_of l hT a0 v4 (0 : Int32) h0 H.size _ _ _ hc_2) (cwV 2 hts (rc_gV tw_7_115 tw_7_117 tw_p_20 tw_1_14 tw_7_118) rfl rfl rfl (by decide +kernel) ⟨Nat.le_of_ble_eq_true rfl, Nat.le_of_ble_eq_true rfl⟩) (rc_preV hT hW hK hE hS h0 (by decide) rfl (q := (RX9, TX9, 22)) rfl [.int v4, .int (0 : Int32)]) rfl rfl hl.1 rfl (lv_room (Nat.le_of_ble_eq_true rfl)) dX9_caught_24 ⟨Nat.le_of_ble_eq_true rfl, Nat.le_of_ble_eq_true rfl⟩) (fun H locs hW hS => ?_)
        have hm := hm0
        clear hm0 hc_2
        refine lv_iload_n hx hb dX9_caught_27 rfl (lv_at hl 1 rfl) ?_
        refine lv_icmp_ne (tgt := 56) hx hb dX9_caught_28 (by decide) (fun c_11 => ?_) (fun c_11 => ?_)
        · replace hm := rc_f hm c_11
          obtain ⟨v4_3, ev⟩ : ∃ y : Int32, y = (v4 + 1) := ⟨_, rfl⟩
          replace hm := rc_lt_at hm ev
          refine lv_iinc (v := v4_3) (lv' := [(4, .int v4_3), (0, .ref a0), (1, .int v1), (2, .int v2), (3, .int v3)]) hx hb dX9_caught_56 hl (k := 4) rfl (by rw [ev]; rfl) (by decide) rfl (fun ls hl => ?_)
          clear ev
          refine lv_goto (tgt := 9) hx hb dX9_caught_59 (by decide) ?_
          exact ih v3 v4_3 σ_2 _ _ _ hm hW hS (lv_sub hl [1, 2, 3, 4, 0] rfl)
        · replace hm := rc_t hm c_11
          refine lv_aload_n hx hb dX9_caught_31 rfl (lv_at hl 0 rfl) ?_
          refine lv_iload hx hb dX9_caught_32 (lv_at hl 4 rfl) ?_
          refine lv_iconst (v := 1) hx hb dX9_caught_34 (by decide) ?_
          obtain ⟨w_4, σ_4, hc_4, hm0⟩ := rc_bd_inv hm
          clear hm
          refine rc_ci hS (va_runV (As := [.int v4, .int (1 : Int32)]) (rest := []) ⟨hx, hb, hml, hown, hts⟩ (k_X9_of l hT a0 v4 (1 : Int32) h0 H.size _ _ _ hc_4) (cwV 2 hts (rc_gV tw_7_115 tw_7_117 tw_p_20 tw_1_14 tw_7_118) rfl rfl rfl (by decide +kernel) ⟨Nat.le_of_ble_eq_true rfl, Nat.le_of_ble_eq_true rfl⟩) (rc_preV hT hW hK hE hS h0 (by decide) rfl (q := (RX9, TX9, 22)) rfl [.int v4, .int (1 : Int32)]) rfl rfl hl.1 rfl (lv_room (Nat.le_of_ble_eq_true rfl)) dX9_caught_35 ⟨Nat.le_of_ble_eq_true rfl, Nat.le_of_ble_eq_true rfl⟩) (fun H locs hW hS => ?_)
          have hm := hm0
          clear hm0 hc_4
          refine lv_if_ne (tgt := 56) hx hb dX9_caught_38 (by decide) (fun c_10 => ?_) (fun c_10 => ?_)
          · replace hm := rc_f hm c_10
            obtain ⟨v4_5, ev⟩ : ∃ y : Int32, y = (v4 + 1) := ⟨_, rfl⟩
            replace hm := rc_lt_at hm ev
            refine lv_iinc (v := v4_5) (lv' := [(4, .int v4_5), (0, .ref a0), (1, .int v1), (2, .int v2), (3, .int v3)]) hx hb dX9_caught_56 hl (k := 4) rfl (by rw [ev]; rfl) (by decide) rfl (fun ls hl => ?_)
            clear ev
            refine lv_goto (tgt := 9) hx hb dX9_caught_59 (by decide) ?_
            exact ih v3 v4_5 σ_4 _ _ _ hm hW hS (lv_sub hl [1, 2, 3, 4, 0] rfl)
          · replace hm := rc_t hm c_10
            refine lv_iload_n hx hb dX9_caught_41 rfl (lv_at hl 3 rfl) ?_
            refine lv_bipush (v := 20) hx hb dX9_caught_42 (by decide) ?_
            refine lv_icmp_le (tgt := 54) hx hb dX9_caught_44 (by decide) (fun c_9 => ?_) (fun c_9 => ?_)
            · replace hm := rc_t hm c_9
              refine lv_iconst (v := 0) hx hb dX9_caught_54 (by decide) ?_
              refine lv_istore_n (lv' := [(3, .int (0 : Int32)), (0, .ref a0), (1, .int v1), (2, .int v2), (4, .int v4)]) hx hb dX9_caught_55 rfl hl (by decide) rfl (fun ls hl => ?_)
              obtain ⟨v4_6, ev⟩ : ∃ y : Int32, y = (v4 + 1) := ⟨_, rfl⟩
              replace hm := rc_lt_at hm ev
              refine lv_iinc (v := v4_6) (lv' := [(4, .int v4_6), (3, .int (0 : Int32)), (0, .ref a0), (1, .int v1), (2, .int v2)]) hx hb dX9_caught_56 hl (k := 4) rfl (by rw [ev]; rfl) (by decide) rfl (fun ls hl => ?_)
              clear ev
              refine lv_goto (tgt := 9) hx hb dX9_caught_59 (by decide) ?_
              exact ih (0 : Int32) v4_6 σ_4 _ _ _ hm hW hS (lv_sub hl [2, 3, 4, 1, 0] rfl)
            · replace hm := rc_f hm c_9
              refine lv_iload_n hx hb dX9_caught_47 rfl (lv_at hl 3 rfl) ?_
              refine lv_bipush (v := 20) hx hb dX9_caught_48 (by decide) ?_
              refine lv_isub hx hb dX9_caught_50 ?_
              refine lv_goto (tgt := 55) hx hb dX9_caught_51 (by decide) ?_
              refine lv_topi (fun v3_7 ev => ?_)
              replace hm := rc_lt_at hm ev
              clear ev
              refine lv_istore_n (lv' := [(3, .int v3_7), (0, .ref a0), (1, .int v1), (2, .int v2), (4, .int v4)]) hx hb dX9_caught_55 rfl hl (by decide) rfl (fun ls hl => ?_)
              obtain ⟨v4_8, ev⟩ : ∃ y : Int32, y = (v4 + 1) := ⟨_, rfl⟩
              replace hm := rc_lt_at hm ev
              refine lv_iinc (v := v4_8) (lv' := [(4, .int v4_8), (3, .int v3_7), (0, .ref a0), (1, .int v1), (2, .int v2)]) hx hb dX9_caught_56 hl (k := 4) rfl (by rw [ev]; rfl) (by decide) rfl (fun ls hl => ?_)
              clear ev
              refine lv_goto (tgt := 9) hx hb dX9_caught_59 (by decide) ?_
              exact ih v3_7 v4_8 σ_4 _ _ _ hm hW hS (lv_sub hl [2, 3, 4, 1, 0] rfl)
  unfold f_X9_caught at hm
  refine lv_iload_n hx hb dX9_caught_0 rfl (lv_at hl 1 rfl) ?_
  refine lv_iconst (v := 1) hx hb dX9_caught_1 (by decide) ?_
  refine lv_iadd hx hb dX9_caught_2 ?_
  refine lv_iload_n hx hb dX9_caught_3 rfl (lv_at hl 2 rfl) ?_
  refine lv_imul hx hb dX9_caught_4 ?_
  refine lv_topi (fun v3_1 ev => ?_)
  replace hm := rc_lt_at hm ev
  clear ev
  refine lv_istore_n (lv' := [(3, .int v3_1), (0, .ref a0), (1, .int u1), (2, .int u2)]) hx hb dX9_caught_5 rfl hl (by decide) rfl (fun ls hl => ?_)
  refine lv_iconst (v := 0) hx hb dX9_caught_6 (by decide) ?_
  refine lv_istore (lv' := [(4, .int (0 : Int32)), (3, .int v3_1), (0, .ref a0), (1, .int u1), (2, .int u2)]) hx hb dX9_caught_7 hl (by decide) rfl (fun ls hl => ?_)
  refine lp_9 u1 u2 _ (fun v3_13 v4_14 σ_15 H locs ls hm hW hS hl => ?_) rc_fu v3_1 (0 : Int32) σ _ _ _ hm hW hS (lv_sub hl [2, 3, 4, 1, 0] rfl)
  refine lv_iload_n hx hb dX9_caught_62 rfl (lv_at hl 0 rfl) ?_
  refine lv_iconst (v := 1) hx hb dX9_caught_63 (by decide) ?_
  refine lv_iadd hx hb dX9_caught_64 ?_
  refine lv_iload_n hx hb dX9_caught_65 rfl (lv_at hl 1 rfl) ?_
  refine lv_imul hx hb dX9_caught_66 ?_
  refine lv_iload_n hx hb dX9_caught_67 rfl (lv_at hl 2 rfl) ?_
  refine lv_isub hx hb dX9_caught_68 ?_
  exact rc_eiret hx hb hr hlocks hW hS (Nat.le_of_ble_eq_true rfl) (Nat.le_of_ble_eq_true rfl) hm dX9_caught_69
set_option maxHeartbeats 4000000 in
set_option maxRecDepth 100000 in
theorem k_X9_fills (l : Launch) {Y : rc_Y} {sh : Nat → Nat} {rf : rc_F} (hT : rc_T Y sh rf) (a0 : Nat) (u1 : Int32) (u2 : Int32) (h0 : sh a0 = 10) (sz : Nat) (σ σ' : rc_S) (r : Unit) (hm : f_X9_fills rf a0 u1 u2 σ = some (r, σ')) : Met l yX9_fills (Cond.code yX9_fills cX9_fills 6 none :: rc_big) ({ frames := 1, cells := 0, slots := 0, locals := 23 } : Room) (rc_P Y sh rf σ sz [.ref a0, .int u1, .int u2]) (va_Qv (fun (_ : Unit) => True) (fun _ t => rc_W Y sh rf σ' t.heap) (rc_A sh sz)) 0 0 (rc_A sh sz) := by
  refine Met.ofW (cc := cX9_fills) (maxL := 6) (ret := none) (by decide +kernel) rfl ?_
  intro p e s m args below meth c s₁ B hml hv
  obtain ⟨rfl, hsz, hW, hK, hE⟩ := hv
  have hx := B.exec
  have hb := B.bytes
  have hr := B.returns
  have hts : ∀ w ∈ rc_big, w.before _ s = true := fun w h => atoms_spec (ws := Cond.code yX9_fills cX9_fills 6 none :: rc_big) B.pre w (List.mem_cons_of_mem _ h)
  have hown : s.vm.findClass RX9 = some m.cls := findClass_of_methodNamed B.named
  have hlocks := B.notSynchronized
  clear B
  subst hsz
  have hS : va_S (rc_A sh s.heap.size) s.heap s.heap [] := va_S.rf
  have hl := lv_entry ([.ref a0, .int u1, .int u2]) (n := 6) (Nat.le_of_ble_eq_true rfl)
  rw [lg_entry_eq]
  generalize (lg_sl ([.ref a0, .int u1, .int u2]) ++ List.replicate (6 - (lg_sl ([.ref a0, .int u1, .int u2])).length) Slot.unset).toArray = ls at hl ⊢
  have hl : lv_has ls 6 [(0, .ref a0), (1, .int u1), (2, .int u2)] := hl
  have lp_9 : ∀ (v1 : Int32) (v2 : Int32) (K : Int32 → Int32 → rc_S → Option (Unit × rc_S)) (hKK : ∀ (v3 v4 : Int32) (σ : rc_S) (H : Heap) (locs : List Loc) (ls : Array Slot), K v3 v4 σ = some (r, σ') → rc_W Y sh rf σ H → va_S (rc_A sh s.heap.size) s.heap H locs → lv_has ls 6 [(0, .ref a0), (1, .int v1), (2, .int v2), (3, .int v3)] → W p l e (headSpec (Cond.code yX9_fills cX9_fills 6 none :: rc_big) ({ frames := 1, cells := 0, slots := 0, locals := 23 } : Room)).room s m (([.ref a0, .int u1, .int u2] : List Value).toArray) below meth c H locs 0 0 (MQ below (va_Qv (fun (_ : Unit) => True) (fun _ t => rc_W Y sh rf σ' t.heap) (rc_A sh s.heap.size)) ([.ref a0, .int u1, .int u2] : List Value).toArray s 0 0 (rc_A sh s.heap.size)) (F0 m 124 ls [])) (n : Nat) (v3 v4 : Int32) (σ : rc_S) (H : Heap) (locs : List Loc) (ls : Array Slot), f_X9_fills_9 rf a0 v1 v2 K n v3 v4 σ = some (r, σ') → rc_W Y sh rf σ H → va_S (rc_A sh s.heap.size) s.heap H locs → lv_has ls 6 [(0, .ref a0), (1, .int v1), (2, .int v2), (3, .int v3), (4, .int v4)] → W p l e (headSpec (Cond.code yX9_fills cX9_fills 6 none :: rc_big) ({ frames := 1, cells := 0, slots := 0, locals := 23 } : Room)).room s m (([.ref a0, .int u1, .int u2] : List Value).toArray) below meth c H locs 0 0 (MQ below (va_Qv (fun (_ : Unit) => True) (fun _ t => rc_W Y sh rf σ' t.heap) (rc_A sh s.heap.size)) ([.ref a0, .int u1, .int u2] : List Value).toArray s 0 0 (rc_A sh s.heap.size)) (F0 m 9 ls []) := by
    intro v1 v2 K hKK n
    induction n with
    | zero =>
      intro v3 v4 σ H locs ls hm
      rw [f_X9_fills_9] at hm
      cases hm
    | succ n ih =>
      intro v3 v4 σ H locs ls hm hW hS hl
      rw [f_X9_fills_9] at hm
      refine lv_iload hx hb dX9_fills_9 (lv_at hl 4 rfl) ?_
      refine lv_aload_n hx hb dX9_fills_11 rfl (lv_at hl 0 rfl) ?_
      refine rg_10_1 hx hb hts hown hK hW h0 tw_7_22 dX9_fills_12 ?_
      refine lv_iconst (v := 0) hx hb dX9_fills_15 (by decide) ?_
      refine rc_ialdj (j := 0) hx hb hK hW (rc_t_10_1 hT h0) (by decide) rfl (rc_inD (by decide)) (by decide) dX9_fills_16 ?_
      refine lv_icmp_ge (tgt := 124) hx hb dX9_fills_17 (by decide) (fun c_24 => ?_) (fun c_24 => ?_)
      · replace hm := rc_t hm c_24
        exact hKK v3 v4 σ _ _ _ hm hW hS (lv_sub hl [0, 1, 2, 3] rfl)
      · replace hm := rc_f hm c_24
        refine lv_iload_n hx hb dX9_fills_20 rfl (lv_at hl 3 rfl) ?_
        refine lv_if_le (tgt := 124) hx hb dX9_fills_21 (by decide) (fun c_23 => ?_) (fun c_23 => ?_)
        · replace hm := rc_t hm c_23
          exact hKK v3 v4 σ _ _ _ hm hW hS (lv_sub hl [0, 1, 2, 3] rfl)
        · replace hm := rc_f hm c_23
          refine lv_aload_n hx hb dX9_fills_24 rfl (lv_at hl 0 rfl) ?_
          refine lv_iload hx hb dX9_fills_25 (lv_at hl 4 rfl) ?_
          refine lv_iconst (v := 0) hx hb dX9_fills_27 (by decide) ?_
          obtain ⟨w_2, σ_2, hc_2, hm0⟩ := rc_bd_inv hm
          clear hm
          refine rc_ci hS (va_runV (As := [.int v4, .int (0 : Int32)]) (rest := []) ⟨hx, hb, hml, hown, hts⟩ (k_X9_of l hT a0 v4 (0 : Int32) h0 H.size _ _ _ hc_2) (cwV 2 hts (rc_gV tw_7_115 tw_7_117 tw_p_20 tw_1_14 tw_7_118) rfl rfl rfl (by decide +kernel) ⟨Nat.le_of_ble_eq_true rfl, Nat.le_of_ble_eq_true rfl⟩) (rc_preV hT hW hK hE hS h0 (by decide) rfl (q := (RX9, TX9, 22)) rfl [.int v4, .int (0 : Int32)]) rfl rfl hl.1 rfl (lv_room (Nat.le_of_ble_eq_true rfl)) dX9_fills_28 ⟨Nat.le_of_ble_eq_true rfl, Nat.le_of_ble_eq_true rfl⟩) (fun H locs hW hS => ?_)
          have hm := hm0
          clear hm0 hc_2
          refine lv_iload_n hx hb dX9_fills_31 rfl (lv_at hl 1 rfl) ?_
          refine lv_icmp_ne (tgt := 118) hx hb dX9_fills_32 (by decide) (fun c_22 => ?_) (fun c_22 => ?_)
          · replace hm := rc_f hm c_22
            obtain ⟨v4_3, ev⟩ : ∃ y : Int32, y = (v4 + 1) := ⟨_, rfl⟩
            replace hm := rc_lt_at hm ev
            refine lv_iinc (v := v4_3) (lv' := [(4, .int v4_3), (0, .ref a0), (1, .int v1), (2, .int v2), (3, .int v3)]) hx hb dX9_fills_118 hl (k := 4) rfl (by rw [ev]; rfl) (by decide) rfl (fun ls hl => ?_)
            clear ev
            refine lv_goto (tgt := 9) hx hb dX9_fills_121 (by decide) ?_
            exact ih v3 v4_3 σ_2 _ _ _ hm hW hS (lv_sub hl [1, 2, 3, 4, 0] rfl)
          · replace hm := rc_t hm c_22
            refine lv_aload_n hx hb dX9_fills_35 rfl (lv_at hl 0 rfl) ?_
            refine lv_iload hx hb dX9_fills_36 (lv_at hl 4 rfl) ?_
            refine lv_iconst (v := 1) hx hb dX9_fills_38 (by decide) ?_
            obtain ⟨w_4, σ_4, hc_4, hm0⟩ := rc_bd_inv hm
            clear hm
            refine rc_ci hS (va_runV (As := [.int v4, .int (1 : Int32)]) (rest := []) ⟨hx, hb, hml, hown, hts⟩ (k_X9_of l hT a0 v4 (1 : Int32) h0 H.size _ _ _ hc_4) (cwV 2 hts (rc_gV tw_7_115 tw_7_117 tw_p_20 tw_1_14 tw_7_118) rfl rfl rfl (by decide +kernel) ⟨Nat.le_of_ble_eq_true rfl, Nat.le_of_ble_eq_true rfl⟩) (rc_preV hT hW hK hE hS h0 (by decide) rfl (q := (RX9, TX9, 22)) rfl [.int v4, .int (1 : Int32)]) rfl rfl hl.1 rfl (lv_room (Nat.le_of_ble_eq_true rfl)) dX9_fills_39 ⟨Nat.le_of_ble_eq_true rfl, Nat.le_of_ble_eq_true rfl⟩) (fun H locs hW hS => ?_)
            have hm := hm0
            clear hm0 hc_4
            refine lv_if_le (tgt := 48) hx hb dX9_fills_42 (by decide) (fun c_21 => ?_) (fun c_21 => ?_)
            · replace hm := rc_t hm c_21
              refine lv_iload_n hx hb dX9_fills_48 rfl (lv_at hl 3 rfl) ?_
              refine lv_bipush (v := 20) hx hb dX9_fills_49 (by decide) ?_
              refine lv_icmp_le (tgt := 59) hx hb dX9_fills_51 (by decide) (fun c_19 => ?_) (fun c_19 => ?_)
              · replace hm := rc_t hm c_19
                refine lv_iload_n hx hb dX9_fills_59 rfl (lv_at hl 3 rfl) ?_
                refine lv_istore (lv' := [(5, .int v3), (0, .ref a0), (1, .int v1), (2, .int v2), (3, .int v3), (4, .int v4)]) hx hb dX9_fills_60 hl (by decide) rfl (fun ls hl => ?_)
                refine lv_aload_n hx hb dX9_fills_62 rfl (lv_at hl 1 rfl) ?_
                refine lv_iload hx hb dX9_fills_63 (lv_at hl 5 rfl) ?_
                refine lv_iconst (v := 1) hx hb dX9_fills_65 (by decide) ?_
                refine lv_iload hx hb dX9_fills_66 (lv_at hl 0 rfl) ?_
                obtain ⟨w_5, σ_5, hc_5, hm0⟩ := rc_bd_inv hm
                clear hm
                refine rc_cv hS (va_runV (As := [.int v4, .int (1 : Int32), .int v3]) (rest := []) ⟨hx, hb, hml, hown, hts⟩ (k_X9_sets l hT a0 v4 (1 : Int32) v3 h0 H.size _ _ _ hc_5) (cwV 3 hts (rc_gV tw_7_123 tw_7_125 tw_p_22 tw_1_14 tw_7_126) rfl rfl rfl (by decide +kernel) ⟨Nat.le_of_ble_eq_true rfl, Nat.le_of_ble_eq_true rfl⟩) (rc_preV hT hW hK hE hS h0 (by decide) rfl (q := (RX9, TX9, 22)) rfl [.int v4, .int (1 : Int32), .int v3]) rfl rfl hl.1 rfl (lv_room (Nat.le_of_ble_eq_true rfl)) dX9_fills_68 ⟨Nat.le_of_ble_eq_true rfl, Nat.le_of_ble_eq_true rfl⟩) (fun H locs hW hS => ?_)
                have hm := hm0
                clear hm0 hc_5
                refine lv_aload_n hx hb dX9_fills_71 rfl (lv_at hl 1 rfl) ?_
                refine lv_iload hx hb dX9_fills_72 (lv_at hl 5 rfl) ?_
                refine lv_iconst (v := 3) hx hb dX9_fills_74 (by decide) ?_
                refine lv_aload_n hx hb dX9_fills_75 rfl (lv_at hl 1 rfl) ?_
                refine rg_10_1 hx hb hts hown hK hW h0 tw_7_22 dX9_fills_76 ?_
                refine lv_iconst (v := 4) hx hb dX9_fills_79 (by decide) ?_
                refine rc_ialdj (j := 4) hx hb hK hW (rc_t_10_1 hT h0) (by decide) rfl (rc_inD (by decide)) (by decide) dX9_fills_80 ?_
                obtain ⟨w_6, σ_6, hc_6, hm0⟩ := rc_bd_inv hm
                clear hm
                refine rc_cv hS (va_runV (As := [.int v4, .int (3 : Int32), .int (σ_5 (rf a0 1) 4)]) (rest := []) ⟨hx, hb, hml, hown, hts⟩ (k_X9_sets l hT a0 v4 (3 : Int32) (σ_5 (rf a0 1) 4) h0 H.size _ _ _ hc_6) (cwV 3 hts (rc_gV tw_7_123 tw_7_125 tw_p_22 tw_1_14 tw_7_126) rfl rfl rfl (by decide +kernel) ⟨Nat.le_of_ble_eq_true rfl, Nat.le_of_ble_eq_true rfl⟩) (rc_preV hT hW hK hE hS h0 (by decide) rfl (q := (RX9, TX9, 22)) rfl [.int v4, .int (3 : Int32), .int (σ_5 (rf a0 1) 4)]) rfl rfl hl.1 rfl (lv_room (Nat.le_of_ble_eq_true rfl)) dX9_fills_81 ⟨Nat.le_of_ble_eq_true rfl, Nat.le_of_ble_eq_true rfl⟩) (fun H locs hW hS => ?_)
                have hm := hm0
                clear hm0 hc_6
                refine lv_aload_n hx hb dX9_fills_84 rfl (lv_at hl 1 rfl) ?_
                refine lv_iload hx hb dX9_fills_85 (lv_at hl 5 rfl) ?_
                refine lv_iconst (v := 4) hx hb dX9_fills_87 (by decide) ?_
                refine lv_aload_n hx hb dX9_fills_88 rfl (lv_at hl 1 rfl) ?_
                refine rg_10_1 hx hb hts hown hK hW h0 tw_7_22 dX9_fills_89 ?_
                refine lv_bipush (v := 11) hx hb dX9_fills_92 (by decide) ?_
                refine lv_iload_n hx hb dX9_fills_94 rfl (lv_at hl 2 rfl) ?_
                refine lv_iadd hx hb dX9_fills_95 ?_
                have hi_7 := (rc_ix hm).1
                replace hm := (rc_ix hm).2
                refine rc_ialdj (j := ((11 : Int32) + v1).toNatClampNeg) hx hb hK hW (rc_t_10_1 hT h0) (by decide) rfl hi_7 rfl dX9_fills_96 ?_
                obtain ⟨w_8, σ_8, hc_8, hm0⟩ := rc_bd_inv hm
                clear hm
                refine rc_cv hS (va_runV (As := [.int v4, .int (4 : Int32), .int (σ_6 (rf a0 1) ((11 : Int32) + v1).toNatClampNeg)]) (rest := []) ⟨hx, hb, hml, hown, hts⟩ (k_X9_sets l hT a0 v4 (4 : Int32) (σ_6 (rf a0 1) ((11 : Int32) + v1).toNatClampNeg) h0 H.size _ _ _ hc_8) (cwV 3 hts (rc_gV tw_7_123 tw_7_125 tw_p_22 tw_1_14 tw_7_126) rfl rfl rfl (by decide +kernel) ⟨Nat.le_of_ble_eq_true rfl, Nat.le_of_ble_eq_true rfl⟩) (rc_preV hT hW hK hE hS h0 (by decide) rfl (q := (RX9, TX9, 22)) rfl [.int v4, .int (4 : Int32), .int (σ_6 (rf a0 1) ((11 : Int32) + v1).toNatClampNeg)]) rfl rfl hl.1 rfl (lv_room (Nat.le_of_ble_eq_true rfl)) dX9_fills_97 ⟨Nat.le_of_ble_eq_true rfl, Nat.le_of_ble_eq_true rfl⟩) (fun H locs hW hS => ?_)
                have hm := hm0
                clear hm0 hc_8
                refine lv_aload_n hx hb dX9_fills_100 rfl (lv_at hl 1 rfl) ?_
                refine lv_iload hx hb dX9_fills_101 (lv_at hl 5 rfl) ?_
                refine lv_iconst (v := 5) hx hb dX9_fills_103 (by decide) ?_
                refine lv_aload_n hx hb dX9_fills_104 rfl (lv_at hl 1 rfl) ?_
                refine rg_10_1 hx hb hts hown hK hW h0 tw_7_22 dX9_fills_105 ?_
                refine lv_iconst (v := 3) hx hb dX9_fills_108 (by decide) ?_
                refine rc_ialdj (j := 3) hx hb hK hW (rc_t_10_1 hT h0) (by decide) rfl (rc_inD (by decide)) (by decide) dX9_fills_109 ?_
                obtain ⟨w_9, σ_9, hc_9, hm0⟩ := rc_bd_inv hm
                clear hm
                refine rc_cv hS (va_runV (As := [.int v4, .int (5 : Int32), .int (σ_8 (rf a0 1) 3)]) (rest := []) ⟨hx, hb, hml, hown, hts⟩ (k_X9_sets l hT a0 v4 (5 : Int32) (σ_8 (rf a0 1) 3) h0 H.size _ _ _ hc_9) (cwV 3 hts (rc_gV tw_7_123 tw_7_125 tw_p_22 tw_1_14 tw_7_126) rfl rfl rfl (by decide +kernel) ⟨Nat.le_of_ble_eq_true rfl, Nat.le_of_ble_eq_true rfl⟩) (rc_preV hT hW hK hE hS h0 (by decide) rfl (q := (RX9, TX9, 22)) rfl [.int v4, .int (5 : Int32), .int (σ_8 (rf a0 1) 3)]) rfl rfl hl.1 rfl (lv_room (Nat.le_of_ble_eq_true rfl)) dX9_fills_110 ⟨Nat.le_of_ble_eq_true rfl, Nat.le_of_ble_eq_true rfl⟩) (fun H locs hW hS => ?_)
                have hm := hm0
                clear hm0 hc_9
                refine lv_iload_n hx hb dX9_fills_113 rfl (lv_at hl 4 rfl) ?_
                refine lv_iload hx hb dX9_fills_114 (lv_at hl 0 rfl) ?_
                refine lv_isub hx hb dX9_fills_116 ?_
                refine lv_topi (fun v3_10 ev => ?_)
                replace hm := rc_lt_at hm ev
                clear ev
                refine lv_istore_n (lv' := [(3, .int v3_10), (5, .int v3), (0, .ref a0), (1, .int v1), (2, .int v2), (4, .int v4)]) hx hb dX9_fills_117 rfl hl (by decide) rfl (fun ls hl => ?_)
                obtain ⟨v4_11, ev⟩ : ∃ y : Int32, y = (v4 + 1) := ⟨_, rfl⟩
                replace hm := rc_lt_at hm ev
                refine lv_iinc (v := v4_11) (lv' := [(4, .int v4_11), (3, .int v3_10), (5, .int v3), (0, .ref a0), (1, .int v1), (2, .int v2)]) hx hb dX9_fills_118 hl (k := 5) rfl (by rw [ev]; rfl) (by decide) rfl (fun ls hl => ?_)
                clear ev
                refine lv_goto (tgt := 9) hx hb dX9_fills_121 (by decide) ?_
                exact ih v3_10 v4_11 σ_9 _ _ _ hm hW hS (lv_sub hl [3, 4, 5, 1, 0] rfl)
              · replace hm := rc_f hm c_19
                refine lv_bipush (v := 20) hx hb dX9_fills_54 (by decide) ?_
                refine lv_goto (tgt := 60) hx hb dX9_fills_56 (by decide) ?_
                refine lv_istore (lv' := [(5, .int (20 : Int32)), (0, .ref a0), (1, .int v1), (2, .int v2), (3, .int v3), (4, .int v4)]) hx hb dX9_fills_60 hl (by decide) rfl (fun ls hl => ?_)
                refine lv_aload_n hx hb dX9_fills_62 rfl (lv_at hl 1 rfl) ?_
                refine lv_iload hx hb dX9_fills_63 (lv_at hl 5 rfl) ?_
                refine lv_iconst (v := 1) hx hb dX9_fills_65 (by decide) ?_
                refine lv_iload hx hb dX9_fills_66 (lv_at hl 0 rfl) ?_
                obtain ⟨w_12, σ_12, hc_12, hm0⟩ := rc_bd_inv hm
                clear hm
                refine rc_cv hS (va_runV (As := [.int v4, .int (1 : Int32), .int (20 : Int32)]) (rest := []) ⟨hx, hb, hml, hown, hts⟩ (k_X9_sets l hT a0 v4 (1 : Int32) (20 : Int32) h0 H.size _ _ _ hc_12) (cwV 3 hts (rc_gV tw_7_123 tw_7_125 tw_p_22 tw_1_14 tw_7_126) rfl rfl rfl (by decide +kernel) ⟨Nat.le_of_ble_eq_true rfl, Nat.le_of_ble_eq_true rfl⟩) (rc_preV hT hW hK hE hS h0 (by decide) rfl (q := (RX9, TX9, 22)) rfl [.int v4, .int (1 : Int32), .int (20 : Int32)]) rfl rfl hl.1 rfl (lv_room (Nat.le_of_ble_eq_true rfl)) dX9_fills_68 ⟨Nat.le_of_ble_eq_true rfl, Nat.le_of_ble_eq_true rfl⟩) (fun H locs hW hS => ?_)
                have hm := hm0
                clear hm0 hc_12
                refine lv_aload_n hx hb dX9_fills_71 rfl (lv_at hl 1 rfl) ?_
                refine lv_iload hx hb dX9_fills_72 (lv_at hl 5 rfl) ?_
                refine lv_iconst (v := 3) hx hb dX9_fills_74 (by decide) ?_
                refine lv_aload_n hx hb dX9_fills_75 rfl (lv_at hl 1 rfl) ?_
                refine rg_10_1 hx hb hts hown hK hW h0 tw_7_22 dX9_fills_76 ?_
                refine lv_iconst (v := 4) hx hb dX9_fills_79 (by decide) ?_
                refine rc_ialdj (j := 4) hx hb hK hW (rc_t_10_1 hT h0) (by decide) rfl (rc_inD (by decide)) (by decide) dX9_fills_80 ?_
                obtain ⟨w_13, σ_13, hc_13, hm0⟩ := rc_bd_inv hm
                clear hm
                refine rc_cv hS (va_runV (As := [.int v4, .int (3 : Int32), .int (σ_12 (rf a0 1) 4)]) (rest := []) ⟨hx, hb, hml, hown, hts⟩ (k_X9_sets l hT a0 v4 (3 : Int32) (σ_12 (rf a0 1) 4) h0 H.size _ _ _ hc_13) (cwV 3 hts (rc_gV tw_7_123 tw_7_125 tw_p_22 tw_1_14 tw_7_126) rfl rfl rfl (by decide +kernel) ⟨Nat.le_of_ble_eq_true rfl, Nat.le_of_ble_eq_true rfl⟩) (rc_preV hT hW hK hE hS h0 (by decide) rfl (q := (RX9, TX9, 22)) rfl [.int v4, .int (3 : Int32), .int (σ_12 (rf a0 1) 4)]) rfl rfl hl.1 rfl (lv_room (Nat.le_of_ble_eq_true rfl)) dX9_fills_81 ⟨Nat.le_of_ble_eq_true rfl, Nat.le_of_ble_eq_true rfl⟩) (fun H locs hW hS => ?_)
                have hm := hm0
                clear hm0 hc_13
                refine lv_aload_n hx hb dX9_fills_84 rfl (lv_at hl 1 rfl) ?_
                refine lv_iload hx hb dX9_fills_85 (lv_at hl 5 rfl) ?_
                refine lv_iconst (v := 4) hx hb dX9_fills_87 (by decide) ?_
                refine lv_aload_n hx hb dX9_fills_88 rfl (lv_at hl 1 rfl) ?_
                refine rg_10_1 hx hb hts hown hK hW h0 tw_7_22 dX9_fills_89 ?_
                refine lv_bipush (v := 11) hx hb dX9_fills_92 (by decide) ?_
                refine lv_iload_n hx hb dX9_fills_94 rfl (lv_at hl 2 rfl) ?_
                refine lv_iadd hx hb dX9_fills_95 ?_
                have hi_14 := (rc_ix hm).1
                replace hm := (rc_ix hm).2
                refine rc_ialdj (j := ((11 : Int32) + v1).toNatClampNeg) hx hb hK hW (rc_t_10_1 hT h0) (by decide) rfl hi_14 rfl dX9_fills_96 ?_
                obtain ⟨w_15, σ_15, hc_15, hm0⟩ := rc_bd_inv hm
                clear hm
                refine rc_cv hS (va_runV (As := [.int v4, .int (4 : Int32), .int (σ_13 (rf a0 1) ((11 : Int32) + v1).toNatClampNeg)]) (rest := []) ⟨hx, hb, hml, hown, hts⟩ (k_X9_sets l hT a0 v4 (4 : Int32) (σ_13 (rf a0 1) ((11 : Int32) + v1).toNatClampNeg) h0 H.size _ _ _ hc_15) (cwV 3 hts (rc_gV tw_7_123 tw_7_125 tw_p_22 tw_1_14 tw_7_126) rfl rfl rfl (by decide +kernel) ⟨Nat.le_of_ble_eq_true rfl, Nat.le_of_ble_eq_true rfl⟩) (rc_preV hT hW hK hE hS h0 (by decide) rfl (q := (RX9, TX9, 22)) rfl [.int v4, .int (4 : Int32), .int (σ_13 (rf a0 1) ((11 : Int32) + v1).toNatClampNeg)]) rfl rfl hl.1 rfl (lv_room (Nat.le_of_ble_eq_true rfl)) dX9_fills_97 ⟨Nat.le_of_ble_eq_true rfl, Nat.le_of_ble_eq_true rfl⟩) (fun H locs hW hS => ?_)
                have hm := hm0
                clear hm0 hc_15
                refine lv_aload_n hx hb dX9_fills_100 rfl (lv_at hl 1 rfl) ?_
                refine lv_iload hx hb dX9_fills_101 (lv_at hl 5 rfl) ?_
                refine lv_iconst (v := 5) hx hb dX9_fills_103 (by decide) ?_
                refine lv_aload_n hx hb dX9_fills_104 rfl (lv_at hl 1 rfl) ?_
                refine rg_10_1 hx hb hts hown hK hW h0 tw_7_22 dX9_fills_105 ?_
                refine lv_iconst (v := 3) hx hb dX9_fills_108 (by decide) ?_
                refine rc_ialdj (j := 3) hx hb hK hW (rc_t_10_1 hT h0) (by decide) rfl (rc_inD (by decide)) (by decide) dX9_fills_109 ?_
                obtain ⟨w_16, σ_16, hc_16, hm0⟩ := rc_bd_inv hm
                clear hm
                refine rc_cv hS (va_runV (As := [.int v4, .int (5 : Int32), .int (σ_15 (rf a0 1) 3)]) (rest := []) ⟨hx, hb, hml, hown, hts⟩ (k_X9_sets l hT a0 v4 (5 : Int32) (σ_15 (rf a0 1) 3) h0 H.size _ _ _ hc_16) (cwV 3 hts (rc_gV tw_7_123 tw_7_125 tw_p_22 tw_1_14 tw_7_126) rfl rfl rfl (by decide +kernel) ⟨Nat.le_of_ble_eq_true rfl, Nat.le_of_ble_eq_true rfl⟩) (rc_preV hT hW hK hE hS h0 (by decide) rfl (q := (RX9, TX9, 22)) rfl [.int v4, .int (5 : Int32), .int (σ_15 (rf a0 1) 3)]) rfl rfl hl.1 rfl (lv_room (Nat.le_of_ble_eq_true rfl)) dX9_fills_110 ⟨Nat.le_of_ble_eq_true rfl, Nat.le_of_ble_eq_true rfl⟩) (fun H locs hW hS => ?_)
                have hm := hm0
                clear hm0 hc_16
                refine lv_iload_n hx hb dX9_fills_113 rfl (lv_at hl 4 rfl) ?_
                refine lv_iload hx hb dX9_fills_114 (lv_at hl 0 rfl) ?_
                refine lv_isub hx hb dX9_fills_116 ?_
                refine lv_topi (fun v3_17 ev => ?_)
                replace hm := rc_lt_at hm ev
                clear ev
                refine lv_istore_n (lv' := [(3, .int v3_17), (5, .int (20 : Int32)), (0, .ref a0), (1, .int v1), (2, .int v2), (4, .int v4)]) hx hb dX9_fills_117 rfl hl (by decide) rfl (fun ls hl => ?_)
                obtain ⟨v4_18, ev⟩ : ∃ y : Int32, y = (v4 + 1) := ⟨_, rfl⟩
                replace hm := rc_lt_at hm ev
                refine lv_iinc (v := v4_18) (lv' := [(4, .int v4_18), (3, .int v3_17), (5, .int (20 : Int32)), (0, .ref a0), (1, .int v1), (2, .int v2)]) hx hb dX9_fills_118 hl (k := 5) rfl (by rw [ev]; rfl) (by decide) rfl (fun ls hl => ?_)
                clear ev
                refine lv_goto (tgt := 9) hx hb dX9_fills_121 (by decide) ?_
                exact ih v3_17 v4_18 σ_16 _ _ _ hm hW hS (lv_sub hl [3, 4, 5, 1, 0] rfl)
            · replace hm := rc_f hm c_21
              refine lv_goto (tgt := 118) hx hb dX9_fills_45 (by decide) ?_
              obtain ⟨v4_20, ev⟩ : ∃ y : Int32, y = (v4 + 1) := ⟨_, rfl⟩
              replace hm := rc_lt_at hm ev
              refine lv_iinc (v := v4_20) (lv' := [(4, .int v4_20), (0, .ref a0), (1, .int v1), (2, .int v2), (3, .int v3)]) hx hb dX9_fills_118 hl (k := 4) rfl (by rw [ev]; rfl) (by decide) rfl (fun ls hl => ?_)
              clear ev
              refine lv_goto (tgt := 9) hx hb dX9_fills_121 (by decide) ?_
              exact ih v3 v4_20 σ_4 _ _ _ hm hW hS (lv_sub hl [1, 2, 3, 4, 0] rfl)
  unfold f_X9_fills at hm
  refine lv_iload_n hx hb dX9_fills_0 rfl (lv_at hl 1 rfl) ?_
  refine lv_iconst (v := 1) hx hb dX9_fills_1 (by decide) ?_
  refine lv_iadd hx hb dX9_fills_2 ?_
  refine lv_iload_n hx hb dX9_fills_3 rfl (lv_at hl 2 rfl) ?_
  refine lv_imul hx hb dX9_fills_4 ?_
  refine lv_topi (fun v3_1 ev => ?_)
  replace hm := rc_lt_at hm ev
  clear ev
  refine lv_istore_n (lv' := [(3, .int v3_1), (0, .ref a0), (1, .int u1), (2, .int u2)]) hx hb dX9_fills_5 rfl hl (by decide) rfl (fun ls hl => ?_)
  refine lv_iconst (v := 0) hx hb dX9_fills_6 (by decide) ?_
  refine lv_istore (lv' := [(4, .int (0 : Int32)), (3, .int v3_1), (0, .ref a0), (1, .int u1), (2, .int u2)]) hx hb dX9_fills_7 hl (by decide) rfl (fun ls hl => ?_)
  refine lp_9 u1 u2 _ (fun v3_25 v4_26 σ_27 H locs ls hm hW hS hl => ?_) rc_fu v3_1 (0 : Int32) σ _ _ _ hm hW hS (lv_sub hl [2, 3, 4, 1, 0] rfl)
  refine lv_aload_n hx hb dX9_fills_124 rfl (lv_at hl 0 rfl) ?_
  refine rg_10_1 hx hb hts hown hK hW h0 tw_7_22 dX9_fills_125 ?_
  refine lv_bipush (v := 7) hx hb dX9_fills_128 (by decide) ?_
  refine lv_dup2_11 hx hb dX9_fills_130 rfl rfl ?_
  refine rc_ialdj (j := 7) hx hb hK hW (rc_t_10_1 hT h0) (by decide) rfl (rc_inD (by decide)) (by decide) dX9_fills_131 ?_
  refine lv_iload_n hx hb dX9_fills_132 rfl (lv_at hl 3 rfl) ?_
  refine lv_iadd hx hb dX9_fills_133 ?_
  refine rc_iastj (j := 7) hx hb hK hW hS (rc_t_10_1 hT h0) (by decide) (fun _ => rfl) (rc_inD (by decide)) (by decide) dX9_fills_134 (fun σ_28 H locs eσ hW hS => ?_)
  replace hm := rc_lt_at hm eσ
  clear eσ
  refine lv_aload_n hx hb dX9_fills_135 rfl (lv_at hl 0 rfl) ?_
  refine rg_10_1 hx hb hts hown hK hW h0 tw_7_22 dX9_fills_136 ?_
  refine lv_bipush (v := 11) hx hb dX9_fills_139 (by decide) ?_
  refine lv_iload_n hx hb dX9_fills_141 rfl (lv_at hl 1 rfl) ?_
  refine lv_iadd hx hb dX9_fills_142 ?_
  have hi_29 := (rc_ix hm).1
  replace hm := (rc_ix hm).2
  refine rc_ialdj (j := ((11 : Int32) + u1).toNatClampNeg) hx hb hK hW (rc_t_10_1 hT h0) (by decide) rfl hi_29 rfl dX9_fills_143 ?_
  refine lv_iload_n hx hb dX9_fills_144 rfl (lv_at hl 2 rfl) ?_
  refine lv_iconst (v := 3) hx hb dX9_fills_145 (by decide) ?_
  refine lv_idiv hx hb dX9_fills_146 (by decide) ?_
  refine lv_isub hx hb dX9_fills_147 ?_
  refine lv_topi (fun v4_30 ev => ?_)
  replace hm := rc_lt_at hm ev
  clear ev
  refine lv_istore (lv' := [(4, .int v4_30), (0, .ref a0), (1, .int u1), (2, .int u2), (3, .int v3_25)]) hx hb dX9_fills_148 hl (by decide) rfl (fun ls hl => ?_)
  refine lv_aload_n hx hb dX9_fills_150 rfl (lv_at hl 1 rfl) ?_
  refine rg_10_1 hx hb hts hown hK hW h0 tw_7_22 dX9_fills_151 ?_
  refine lv_bipush (v := 11) hx hb dX9_fills_154 (by decide) ?_
  refine lv_iload_n hx hb dX9_fills_156 rfl (lv_at hl 2 rfl) ?_
  refine lv_iadd hx hb dX9_fills_157 ?_
  refine lv_iload hx hb dX9_fills_158 (lv_at hl 0 rfl) ?_
  refine lv_if_ge (tgt := 167) hx hb dX9_fills_160 (by decide) (fun c_35 => ?_) (fun c_35 => ?_)
  · replace hm := rc_t hm c_35
    refine lv_iload hx hb dX9_fills_167 (lv_at hl 0 rfl) ?_
    have hi_31 := (rc_ix hm).1
    replace hm := (rc_ix hm).2
    refine rc_iastj (j := ((11 : Int32) + u1).toNatClampNeg) hx hb hK hW hS (rc_t_10_1 hT h0) (by decide) (fun _ => rfl) hi_31 rfl dX9_fills_169 (fun σ_32 H locs eσ hW hS => ?_)
    replace hm := rc_lt_at hm eσ
    clear eσ
    exact rc_evret hx hb hr hlocks hW hS (Nat.le_of_ble_eq_true rfl) (Nat.le_of_ble_eq_true rfl) hm dX9_fills_170
  · replace hm := rc_f hm c_35
    refine lv_iconst (v := 0) hx hb dX9_fills_163 (by decide) ?_
    refine lv_goto (tgt := 169) hx hb dX9_fills_164 (by decide) ?_
    have hi_33 := (rc_ix hm).1
    replace hm := (rc_ix hm).2
    refine rc_iastj (j := ((11 : Int32) + u1).toNatClampNeg) hx hb hK hW hS (rc_t_10_1 hT h0) (by decide) (fun _ => rfl) hi_33 rfl dX9_fills_169 (fun σ_34 H locs eσ hW hS => ?_)
    replace hm := rc_lt_at hm eσ
    clear eσ
    exact rc_evret hx hb hr hlocks hW hS (Nat.le_of_ble_eq_true rfl) (Nat.le_of_ble_eq_true rfl) hm dX9_fills_170
set_option maxHeartbeats 4000000 in
set_option maxRecDepth 100000 in
theorem k_X9_storms (l : Launch) {Y : rc_Y} {sh : Nat → Nat} {rf : rc_F} (hT : rc_T Y sh rf) (a0 : Nat) (u1 : Int32) (u2 : Int32) (h0 : sh a0 = 10) (sz : Nat) (σ σ' : rc_S) (r : Int32) (hm : f_X9_storms rf a0 u1 u2 σ = some (r, σ')) : Met l yX9_storms (Cond.code yX9_storms cX9_storms 5 (some .int) :: rc_big) ({ frames := 2, cells := 0, slots := 0, locals := 48 } : Room) (rc_P Y sh rf σ sz [.ref a0, .int u1, .int u2]) (va_Qi (fun (r' : Int32) (_ : Unit) => r' = r) (fun _ t => rc_W Y sh rf σ' t.heap) (rc_A sh sz)) 0 0 (rc_A sh sz) := by
  refine Met.ofW (cc := cX9_storms) (maxL := 5) (ret := (some .int)) (by decide +kernel) rfl ?_
  intro p e s m args below meth c s₁ B hml hv
  obtain ⟨rfl, hsz, hW, hK, hE⟩ := hv
  have hx := B.exec
  have hb := B.bytes
  have hr := B.returns
  have hts : ∀ w ∈ rc_big, w.before _ s = true := fun w h => atoms_spec (ws := Cond.code yX9_storms cX9_storms 5 (some .int) :: rc_big) B.pre w (List.mem_cons_of_mem _ h)
  have hown : s.vm.findClass RX9 = some m.cls := findClass_of_methodNamed B.named
  have hlocks := B.notSynchronized
  clear B
  subst hsz
  have hS : va_S (rc_A sh s.heap.size) s.heap s.heap [] := va_S.rf
  have hl := lv_entry ([.ref a0, .int u1, .int u2]) (n := 5) (Nat.le_of_ble_eq_true rfl)
  rw [lg_entry_eq]
  generalize (lg_sl ([.ref a0, .int u1, .int u2]) ++ List.replicate (5 - (lg_sl ([.ref a0, .int u1, .int u2])).length) Slot.unset).toArray = ls at hl ⊢
  have hl : lv_has ls 5 [(0, .ref a0), (1, .int u1), (2, .int u2)] := hl
  have lp_31 : ∀ (v1 : Int32) (v2 : Int32) (K : Int32 → Int32 → rc_S → Option (Int32 × rc_S)) (hKK : ∀ (v3 v4 : Int32) (σ : rc_S) (H : Heap) (locs : List Loc) (ls : Array Slot), K v3 v4 σ = some (r, σ') → rc_W Y sh rf σ H → va_S (rc_A sh s.heap.size) s.heap H locs → lv_has ls 5 [(0, .ref a0), (1, .int v1), (2, .int v2), (3, .int v3)] → W p l e (headSpec (Cond.code yX9_storms cX9_storms 5 (some .int) :: rc_big) ({ frames := 2, cells := 0, slots := 0, locals := 48 } : Room)).room s m (([.ref a0, .int u1, .int u2] : List Value).toArray) below meth c H locs (0 + 0 + 0) (0 + 0 + 0) (MQ below (va_Qi (fun (r' : Int32) (_ : Unit) => r' = r) (fun _ t => rc_W Y sh rf σ' t.heap) (rc_A sh s.heap.size)) ([.ref a0, .int u1, .int u2] : List Value).toArray s 0 0 (rc_A sh s.heap.size)) (F0 m 60 ls [])) (n : Nat) (v3 v4 : Int32) (σ : rc_S) (H : Heap) (locs : List Loc) (ls : Array Slot), f_X9_storms_31 rf a0 v1 v2 K n v3 v4 σ = some (r, σ') → rc_W Y sh rf σ H → va_S (rc_A sh s.heap.size) s.heap H locs → lv_has ls 5 [(0, .ref a0), (1, .int v1), (2, .int v2), (3, .int v3), (4, .int v4)] → W p l e (headSpec (Cond.code yX9_storms cX9_storms 5 (some .int) :: rc_big) ({ frames := 2, cells := 0, slots := 0, locals := 48 } : Room)).room s m (([.ref a0, .int u1, .int u2] : List Value).toArray) below meth c H locs (0 + 0 + 0) (0 + 0 + 0) (MQ below (va_Qi (fun (r' : Int32) (_ : Unit) => r' = r) (fun _ t => rc_W Y sh rf σ' t.heap) (rc_A sh s.heap.size)) ([.ref a0, .int u1, .int u2] : List Value).toArray s 0 0 (rc_A sh s.heap.size)) (F0 m 31 ls []) := by
    intro v1 v2 K hKK n
    induction n with
    | zero =>
      intro v3 v4 σ H locs ls hm
      rw [f_X9_storms_31] at hm
      cases hm
    | succ n ih =>
      intro v3 v4 σ H locs ls hm hW hS hl
      rw [f_X9_storms_31] at hm
      refine lv_iload hx hb dX9_storms_31 (lv_at hl 4 rfl) ?_
      refine lv_iconst (v := 4) hx hb dX9_storms_33 (by decide) ?_
      refine lv_icmp_ge (tgt := 60) hx hb dX9_storms_34 (by decide) (fun c_8 => ?_) (fun c_8 => ?_)
      · replace hm := rc_t hm c_8
        exact hKK v3 v4 σ _ _ _ hm hW hS (lv_sub hl [0, 1, 2, 3] rfl)
      · replace hm := rc_f hm c_8
        refine lv_iload_n hx hb dX9_storms_37 rfl (lv_at hl 3 rfl) ?_
        refine lv_aload_n hx hb dX9_storms_38 rfl (lv_at hl 0 rfl) ?_
        refine lv_iload hx hb dX9_storms_39 (lv_at hl 4 rfl) ?_
        refine lv_iload_n hx hb dX9_storms_41 rfl (lv_at hl 1 rfl) ?_
        obtain ⟨w_4, σ_4, hc_4, hm0⟩ := rc_bd_inv hm
        clear hm
        refine rc_ci hS (va_runV (As := [.int v4, .int v1]) (rest := [.int v3]) ⟨hx, hb, hml, hown, hts⟩ (k_X9_caught l hT a0 v4 v1 h0 H.size _ _ _ hc_4) (cwV 2 hts (rc_gV tw_7_111 tw_7_113 tw_p_19 tw_1_14 tw_7_114) rfl rfl rfl (by decide +kernel) ⟨Nat.le_of_ble_eq_true rfl, Nat.le_of_ble_eq_true rfl⟩) (rc_preV hT hW hK hE hS h0 (by decide) rfl (q := (RX9, TX9, 22)) rfl [.int v4, .int v1]) rfl rfl hl.1 rfl (lv_room (Nat.le_of_ble_eq_true rfl)) dX9_storms_42 ⟨Nat.le_of_ble_eq_true rfl, Nat.le_of_ble_eq_true rfl⟩) (fun H locs hW hS => ?_)
        have hm := hm0
        clear hm0 hc_4
        refine lv_iadd hx hb dX9_storms_45 ?_
        refine lv_topi (fun v3_5 ev => ?_)
        replace hm := rc_lt_at hm ev
        clear ev
        refine lv_istore_n (lv' := [(3, .int v3_5), (0, .ref a0), (1, .int v1), (2, .int v2), (4, .int v4)]) hx hb dX9_storms_46 rfl hl (by decide) rfl (fun ls hl => ?_)
        refine lv_aload_n hx hb dX9_storms_47 rfl (lv_at hl 1 rfl) ?_
        refine lv_iload hx hb dX9_storms_48 (lv_at hl 4 rfl) ?_
        refine lv_iload_n hx hb dX9_storms_50 rfl (lv_at hl 2 rfl) ?_
        obtain ⟨w_6, σ_6, hc_6, hm0⟩ := rc_bd_inv hm
        clear hm
        refine rc_cv hS (va_runV (As := [.int v4, .int v1]) (rest := []) ⟨hx, hb, hml, hown, hts⟩ (k_X9_fills l hT a0 v4 v1 h0 H.size _ _ _ hc_6) (cwV 2 hts (rc_gV tw_7_119 tw_7_121 tw_p_21 tw_1_14 tw_7_122) rfl rfl rfl (by decide +kernel) ⟨Nat.le_of_ble_eq_true rfl, Nat.le_of_ble_eq_true rfl⟩) (rc_preV hT hW hK hE hS h0 (by decide) rfl (q := (RX9, TX9, 22)) rfl [.int v4, .int v1]) rfl rfl hl.1 rfl (lv_room (Nat.le_of_ble_eq_true rfl)) dX9_storms_51 ⟨Nat.le_of_ble_eq_true rfl, Nat.le_of_ble_eq_true rfl⟩) (fun H locs hW hS => ?_)
        have hm := hm0
        clear hm0 hc_6
        obtain ⟨v4_7, ev⟩ : ∃ y : Int32, y = (v4 + 1) := ⟨_, rfl⟩
        replace hm := rc_lt_at hm ev
        refine lv_iinc (v := v4_7) (lv' := [(4, .int v4_7), (3, .int v3_5), (0, .ref a0), (1, .int v1), (2, .int v2)]) hx hb dX9_storms_54 hl (k := 4) rfl (by rw [ev]; rfl) (by decide) rfl (fun ls hl => ?_)
        clear ev
        refine lv_goto (tgt := 31) hx hb dX9_storms_57 (by decide) ?_
        exact ih v3_5 v4_7 σ_6 _ _ _ hm hW hS (lv_sub hl [2, 3, 4, 1, 0] rfl)
  unfold f_X9_storms at hm
  refine lv_iload_n hx hb dX9_storms_0 rfl (lv_at hl 1 rfl) ?_
  refine lv_iconst (v := 1) hx hb dX9_storms_1 (by decide) ?_
  refine lv_bipush (v := 9) hx hb dX9_storms_2 (by decide) ?_
  obtain ⟨w_1, σ_1, hc_1, hm0⟩ := rc_bd_inv hm
  clear hm
  refine rc_ci hS (va_runS (As := [.int u1, .int (1 : Int32), .int (9 : Int32)]) (rest := []) ⟨hx, hb, hml, hown, hts⟩ (k_X9_in l hT u1 (1 : Int32) (9 : Int32)  s.heap.size _ _ _ hc_1) (va_cwS 3 hts (rc_gS tw_7_104 tw_7_105 tw_1_14 tw_7_106) rfl rfl rfl (by decide +kernel) ⟨Nat.le_of_ble_eq_true rfl, Nat.le_of_ble_eq_true rfl⟩) (rc_preS hT hW hK hE hS [.int u1, .int (1 : Int32), .int (9 : Int32)]) rfl rfl hl.1 rfl (lv_room (Nat.le_of_ble_eq_true rfl)) dX9_storms_4 ⟨Nat.le_of_ble_eq_true rfl, Nat.le_of_ble_eq_true rfl⟩) (fun H locs hW hS => ?_)
  have hm := hm0
  clear hm0 hc_1
  refine lv_if_eq (tgt := 19) hx hb dX9_storms_7 (by decide) (fun c_28 => ?_) (fun c_28 => ?_)
  · replace hm := rc_t hm c_28
    refine lv_aload_n hx hb dX9_storms_19 rfl (lv_at hl 0 rfl) ?_
    refine lv_iconst (v := 1) hx hb dX9_storms_20 (by decide) ?_
    refine lv_iconst (v := 0) hx hb dX9_storms_21 (by decide) ?_
    obtain ⟨w_2, σ_2, hc_2, hm0⟩ := rc_bd_inv hm
    clear hm
    refine rc_ci hS (va_runV (As := [.int (1 : Int32), .int (0 : Int32)]) (rest := []) ⟨hx, hb, hml, hown, hts⟩ (k_X9_refused l hT a0 (1 : Int32) (0 : Int32) h0 H.size _ _ _ hc_2) (cwV 2 hts (rc_gV tw_7_107 tw_7_109 tw_p_18 tw_1_14 tw_7_110) rfl rfl rfl (by decide +kernel) ⟨Nat.le_of_ble_eq_true rfl, Nat.le_of_ble_eq_true rfl⟩) (rc_preV hT hW hK hE hS h0 (by decide) rfl (q := (RX9, TX9, 22)) rfl [.int (1 : Int32), .int (0 : Int32)]) rfl rfl hl.1 rfl (lv_room (Nat.le_of_ble_eq_true rfl)) dX9_storms_22 ⟨Nat.le_of_ble_eq_true rfl, Nat.le_of_ble_eq_true rfl⟩) (fun H locs hW hS => ?_)
    have hm := hm0
    clear hm0 hc_2
    exact rc_eiret hx hb hr hlocks hW hS (Nat.le_of_ble_eq_true rfl) (Nat.le_of_ble_eq_true rfl) hm dX9_storms_25
  · replace hm := rc_f hm c_28
    refine lv_iload_n hx hb dX9_storms_10 rfl (lv_at hl 2 rfl) ?_
    refine lv_iconst (v := 0) hx hb dX9_storms_11 (by decide) ?_
    refine lv_iconst (v := 3) hx hb dX9_storms_12 (by decide) ?_
    obtain ⟨w_3, σ_3, hc_3, hm0⟩ := rc_bd_inv hm
    clear hm
    refine rc_ci hS (va_runS (As := [.int u2, .int (0 : Int32), .int (3 : Int32)]) (rest := []) ⟨hx, hb, hml, hown, hts⟩ (k_X9_in l hT u2 (0 : Int32) (3 : Int32)  H.size _ _ _ hc_3) (va_cwS 3 hts (rc_gS tw_7_104 tw_7_105 tw_1_14 tw_7_106) rfl rfl rfl (by decide +kernel) ⟨Nat.le_of_ble_eq_true rfl, Nat.le_of_ble_eq_true rfl⟩) (rc_preS hT hW hK hE hS [.int u2, .int (0 : Int32), .int (3 : Int32)]) rfl rfl hl.1 rfl (lv_room (Nat.le_of_ble_eq_true rfl)) dX9_storms_13 ⟨Nat.le_of_ble_eq_true rfl, Nat.le_of_ble_eq_true rfl⟩) (fun H locs hW hS => ?_)
    have hm := hm0
    clear hm0 hc_3
    refine lv_if_ne (tgt := 26) hx hb dX9_storms_16 (by decide) (fun c_27 => ?_) (fun c_27 => ?_)
    · replace hm := rc_f hm c_27
      refine lv_iconst (v := 0) hx hb dX9_storms_26 (by decide) ?_
      refine lv_istore_n (lv' := [(3, .int (0 : Int32)), (0, .ref a0), (1, .int u1), (2, .int u2)]) hx hb dX9_storms_27 rfl hl (by decide) rfl (fun ls hl => ?_)
      refine lv_iconst (v := 0) hx hb dX9_storms_28 (by decide) ?_
      refine lv_istore (lv' := [(4, .int (0 : Int32)), (3, .int (0 : Int32)), (0, .ref a0), (1, .int u1), (2, .int u2)]) hx hb dX9_storms_29 hl (by decide) rfl (fun ls hl => ?_)
      refine lp_31 u1 u2 _ (fun v3_9 v4_10 σ_11 H locs ls hm hW hS hl => ?_) rc_fu (0 : Int32) (0 : Int32) σ_3 _ _ _ hm hW hS (lv_sub hl [2, 3, 4, 1, 0] rfl)
      refine lv_bipush (v := 71) hx hb dX9_storms_60 (by decide) ?_
      refine lv_iconst (v := 3) hx hb dX9_storms_62 (by decide) ?_
      refine lv_aload_n hx hb dX9_storms_63 rfl (lv_at hl 0 rfl) ?_
      refine rg_10_1 hx hb hts hown hK hW h0 tw_7_22 dX9_storms_64 ?_
      refine lv_iconst (v := 4) hx hb dX9_storms_67 (by decide) ?_
      refine rc_ialdj (j := 4) hx hb hK hW (rc_t_10_1 hT h0) (by decide) rfl (rc_inD (by decide)) (by decide) dX9_storms_68 ?_
      refine lv_bipush (v := 12) hx hb dX9_storms_69 (by decide) ?_
      refine lv_irem hx hb dX9_storms_71 (by decide) ?_
      refine lv_imul hx hb dX9_storms_72 ?_
      refine lv_iadd hx hb dX9_storms_73 ?_
      refine lv_topi (fun v4_12 ev => ?_)
      replace hm := rc_lt_at hm ev
      clear ev
      refine lv_istore (lv' := [(4, .int v4_12), (0, .ref a0), (1, .int u1), (2, .int u2), (3, .int v3_9)]) hx hb dX9_storms_74 hl (by decide) rfl (fun ls hl => ?_)
      refine lv_aload_n hx hb dX9_storms_76 rfl (lv_at hl 1 rfl) ?_
      refine rg_10_1 hx hb hts hown hK hW h0 tw_7_22 dX9_storms_77 ?_
      refine lv_iload hx hb dX9_storms_80 (lv_at hl 0 rfl) ?_
      refine lv_iload_n hx hb dX9_storms_82 rfl (lv_at hl 2 rfl) ?_
      have hi_13 := (rc_ix hm).1
      replace hm := (rc_ix hm).2
      refine rc_iastj (j := v4_12.toNatClampNeg) hx hb hK hW hS (rc_t_10_1 hT h0) (by decide) (fun _ => rfl) hi_13 rfl dX9_storms_83 (fun σ_14 H locs eσ hW hS => ?_)
      replace hm := rc_lt_at hm eσ
      clear eσ
      refine lv_aload_n hx hb dX9_storms_84 rfl (lv_at hl 1 rfl) ?_
      refine rg_10_1 hx hb hts hown hK hW h0 tw_7_22 dX9_storms_85 ?_
      refine lv_iload hx hb dX9_storms_88 (lv_at hl 0 rfl) ?_
      refine lv_iconst (v := 1) hx hb dX9_storms_90 (by decide) ?_
      refine lv_iadd hx hb dX9_storms_91 ?_
      refine lv_aload_n hx hb dX9_storms_92 rfl (lv_at hl 1 rfl) ?_
      refine rg_10_1 hx hb hts hown hK hW h0 tw_7_22 dX9_storms_93 ?_
      refine lv_iconst (v := 3) hx hb dX9_storms_96 (by decide) ?_
      refine rc_ialdj (j := 3) hx hb hK hW (rc_t_10_1 hT h0) (by decide) rfl (rc_inD (by decide)) (by decide) dX9_storms_97 ?_
      have hi_15 := (rc_ix hm).1
      replace hm := (rc_ix hm).2
      refine rc_iastj (j := (v4_12 + (1 : Int32)).toNatClampNeg) hx hb hK hW hS (rc_t_10_1 hT h0) (by decide) (fun _ => rfl) hi_15 rfl dX9_storms_98 (fun σ_16 H locs eσ hW hS => ?_)
      replace hm := rc_lt_at hm eσ
      clear eσ
      refine lv_aload_n hx hb dX9_storms_99 rfl (lv_at hl 1 rfl) ?_
      refine rg_10_1 hx hb hts hown hK hW h0 tw_7_22 dX9_storms_100 ?_
      refine lv_iload hx hb dX9_storms_103 (lv_at hl 0 rfl) ?_
      refine lv_iconst (v := 2) hx hb dX9_storms_105 (by decide) ?_
      refine lv_iadd hx hb dX9_storms_106 ?_
      refine lv_iload_n hx hb dX9_storms_107 rfl (lv_at hl 4 rfl) ?_
      have hi_17 := (rc_ix hm).1
      replace hm := (rc_ix hm).2
      refine rc_iastj (j := (v4_12 + (2 : Int32)).toNatClampNeg) hx hb hK hW hS (rc_t_10_1 hT h0) (by decide) (fun _ => rfl) hi_17 rfl dX9_storms_108 (fun σ_18 H locs eσ hW hS => ?_)
      replace hm := rc_lt_at hm eσ
      clear eσ
      refine lv_aload_n hx hb dX9_storms_109 rfl (lv_at hl 1 rfl) ?_
      refine rg_10_1 hx hb hts hown hK hW h0 tw_7_22 dX9_storms_110 ?_
      refine lv_iconst (v := 4) hx hb dX9_storms_113 (by decide) ?_
      refine lv_dup2_11 hx hb dX9_storms_114 rfl rfl ?_
      refine rc_ialdj (j := 4) hx hb hK hW (rc_t_10_1 hT h0) (by decide) rfl (rc_inD (by decide)) (by decide) dX9_storms_115 ?_
      refine lv_iconst (v := 1) hx hb dX9_storms_116 (by decide) ?_
      refine lv_iadd hx hb dX9_storms_117 ?_
      refine rc_iastj (j := 4) hx hb hK hW hS (rc_t_10_1 hT h0) (by decide) (fun _ => rfl) (rc_inD (by decide)) (by decide) dX9_storms_118 (fun σ_19 H locs eσ hW hS => ?_)
      replace hm := rc_lt_at hm eσ
      clear eσ
      refine lv_aload_n hx hb dX9_storms_119 rfl (lv_at hl 1 rfl) ?_
      refine rg_10_1 hx hb hts hown hK hW h0 tw_7_22 dX9_storms_120 ?_
      refine lv_iconst (v := 5) hx hb dX9_storms_123 (by decide) ?_
      refine lv_dup2_11 hx hb dX9_storms_124 rfl rfl ?_
      refine rc_ialdj (j := 5) hx hb hK hW (rc_t_10_1 hT h0) (by decide) rfl (rc_inD (by decide)) (by decide) dX9_storms_125 ?_
      refine lv_iload_n hx hb dX9_storms_126 rfl (lv_at hl 4 rfl) ?_
      refine lv_iadd hx hb dX9_storms_127 ?_
      refine rc_iastj (j := 5) hx hb hK hW hS (rc_t_10_1 hT h0) (by decide) (fun _ => rfl) (rc_inD (by decide)) (by decide) dX9_storms_128 (fun σ_20 H locs eσ hW hS => ?_)
      replace hm := rc_lt_at hm eσ
      clear eσ
      refine lv_aload_n hx hb dX9_storms_129 rfl (lv_at hl 1 rfl) ?_
      refine rg_10_1 hx hb hts hown hK hW h0 tw_7_22 dX9_storms_130 ?_
      refine lv_iconst (v := 2) hx hb dX9_storms_133 (by decide) ?_
      refine lv_aload_n hx hb dX9_storms_134 rfl (lv_at hl 1 rfl) ?_
      refine rg_10_1 hx hb hts hown hK hW h0 tw_7_22 dX9_storms_135 ?_
      refine lv_iconst (v := 2) hx hb dX9_storms_138 (by decide) ?_
      refine rc_ialdj (j := 2) hx hb hK hW (rc_t_10_1 hT h0) (by decide) rfl (rc_inD (by decide)) (by decide) dX9_storms_139 ?_
      refine lv_iconst (v := 2) hx hb dX9_storms_140 (by decide) ?_
      refine lv_iload_n hx hb dX9_storms_141 rfl (lv_at hl 3 rfl) ?_
      refine lv_imul hx hb dX9_storms_142 ?_
      refine lv_iadd hx hb dX9_storms_143 ?_
      refine lv_bipush (v := 9) hx hb dX9_storms_144 (by decide) ?_
      refine lv_icmp_le (tgt := 154) hx hb dX9_storms_146 (by decide) (fun c_25 => ?_) (fun c_25 => ?_)
      · replace hm := rc_t hm c_25
        refine lv_aload_n hx hb dX9_storms_154 rfl (lv_at hl 1 rfl) ?_
        refine rg_10_1 hx hb hts hown hK hW h0 tw_7_22 dX9_storms_155 ?_
        refine lv_iconst (v := 2) hx hb dX9_storms_158 (by decide) ?_
        refine rc_ialdj (j := 2) hx hb hK hW (rc_t_10_1 hT h0) (by decide) rfl (rc_inD (by decide)) (by decide) dX9_storms_159 ?_
        refine lv_iconst (v := 2) hx hb dX9_storms_160 (by decide) ?_
        refine lv_iload_n hx hb dX9_storms_161 rfl (lv_at hl 3 rfl) ?_
        refine lv_imul hx hb dX9_storms_162 ?_
        refine lv_iadd hx hb dX9_storms_163 ?_
        refine rc_iastj (j := 2) hx hb hK hW hS (rc_t_10_1 hT h0) (by decide) (fun _ => rfl) (rc_inD (by decide)) (by decide) dX9_storms_164 (fun σ_21 H locs eσ hW hS => ?_)
        replace hm := rc_lt_at hm eσ
        clear eσ
        refine lv_aload_n hx hb dX9_storms_165 rfl (lv_at hl 1 rfl) ?_
        refine lv_iload_n hx hb dX9_storms_166 rfl (lv_at hl 4 rfl) ?_
        obtain ⟨w_22, σ_22, hc_22, hm0⟩ := rc_bd_inv hm
        clear hm
        refine rc_ci hS (va_runV (As := [.int v3_9]) (rest := []) ⟨hx, hb, hml, hown, hts⟩ (k_X9_done l hT a0 v3_9 h0 H.size _ _ _ hc_22) (cwV 1 hts (rc_gV tw_7_127 tw_7_129 tw_p_23 tw_1_14 tw_7_130) rfl rfl rfl (by decide +kernel) ⟨Nat.le_of_ble_eq_true rfl, Nat.le_of_ble_eq_true rfl⟩) (rc_preV hT hW hK hE hS h0 (by decide) rfl (q := (RX9, TX9, 22)) rfl [.int v3_9]) rfl rfl hl.1 rfl (lv_room (Nat.le_of_ble_eq_true rfl)) dX9_storms_167 ⟨Nat.le_of_ble_eq_true rfl, Nat.le_of_ble_eq_true rfl⟩) (fun H locs hW hS => ?_)
        have hm := hm0
        clear hm0 hc_22
        exact rc_eiret hx hb hr hlocks hW hS (Nat.le_of_ble_eq_true rfl) (Nat.le_of_ble_eq_true rfl) hm dX9_storms_170
      · replace hm := rc_f hm c_25
        refine lv_bipush (v := 9) hx hb dX9_storms_149 (by decide) ?_
        refine lv_goto (tgt := 164) hx hb dX9_storms_151 (by decide) ?_
        refine rc_iastj (j := 2) hx hb hK hW hS (rc_t_10_1 hT h0) (by decide) (fun _ => rfl) (rc_inD (by decide)) (by decide) dX9_storms_164 (fun σ_23 H locs eσ hW hS => ?_)
        replace hm := rc_lt_at hm eσ
        clear eσ
        refine lv_aload_n hx hb dX9_storms_165 rfl (lv_at hl 1 rfl) ?_
        refine lv_iload_n hx hb dX9_storms_166 rfl (lv_at hl 4 rfl) ?_
        obtain ⟨w_24, σ_24, hc_24, hm0⟩ := rc_bd_inv hm
        clear hm
        refine rc_ci hS (va_runV (As := [.int v3_9]) (rest := []) ⟨hx, hb, hml, hown, hts⟩ (k_X9_done l hT a0 v3_9 h0 H.size _ _ _ hc_24) (cwV 1 hts (rc_gV tw_7_127 tw_7_129 tw_p_23 tw_1_14 tw_7_130) rfl rfl rfl (by decide +kernel) ⟨Nat.le_of_ble_eq_true rfl, Nat.le_of_ble_eq_true rfl⟩) (rc_preV hT hW hK hE hS h0 (by decide) rfl (q := (RX9, TX9, 22)) rfl [.int v3_9]) rfl rfl hl.1 rfl (lv_room (Nat.le_of_ble_eq_true rfl)) dX9_storms_167 ⟨Nat.le_of_ble_eq_true rfl, Nat.le_of_ble_eq_true rfl⟩) (fun H locs hW hS => ?_)
        have hm := hm0
        clear hm0 hc_24
        exact rc_eiret hx hb hr hlocks hW hS (Nat.le_of_ble_eq_true rfl) (Nat.le_of_ble_eq_true rfl) hm dX9_storms_170
    · replace hm := rc_t hm c_27
      refine lv_aload_n hx hb dX9_storms_19 rfl (lv_at hl 0 rfl) ?_
      refine lv_iconst (v := 1) hx hb dX9_storms_20 (by decide) ?_
      refine lv_iconst (v := 0) hx hb dX9_storms_21 (by decide) ?_
      obtain ⟨w_26, σ_26, hc_26, hm0⟩ := rc_bd_inv hm
      clear hm
      refine rc_ci hS (va_runV (As := [.int (1 : Int32), .int (0 : Int32)]) (rest := []) ⟨hx, hb, hml, hown, hts⟩ (k_X9_refused l hT a0 (1 : Int32) (0 : Int32) h0 H.size _ _ _ hc_26) (cwV 2 hts (rc_gV tw_7_107 tw_7_109 tw_p_18 tw_1_14 tw_7_110) rfl rfl rfl (by decide +kernel) ⟨Nat.le_of_ble_eq_true rfl, Nat.le_of_ble_eq_true rfl⟩) (rc_preV hT hW hK hE hS h0 (by decide) rfl (q := (RX9, TX9, 22)) rfl [.int (1 : Int32), .int (0 : Int32)]) rfl rfl hl.1 rfl (lv_room (Nat.le_of_ble_eq_true rfl)) dX9_storms_22 ⟨Nat.le_of_ble_eq_true rfl, Nat.le_of_ble_eq_true rfl⟩) (fun H locs hW hS => ?_)
      have hm := hm0
      clear hm0 hc_26
      exact rc_eiret hx hb hr hlocks hW hS (Nat.le_of_ble_eq_true rfl) (Nat.le_of_ble_eq_true rfl) hm dX9_storms_25
set_option maxHeartbeats 4000000 in
set_option maxRecDepth 100000 in
theorem k_X9_places (l : Launch) {Y : rc_Y} {sh : Nat → Nat} {rf : rc_F} (hT : rc_T Y sh rf) (a0 : Nat) (u1 : Int32) (h0 : sh a0 = 10) (sz : Nat) (σ σ' : rc_S) (r : Int32) (hm : f_X9_places rf a0 u1 σ = some (r, σ')) : Met l yX9_places (Cond.code yX9_places cX9_places 3 (some .int) :: rc_big) ({ frames := 2, cells := 0, slots := 0, locals := 44 } : Room) (rc_P Y sh rf σ sz [.ref a0, .int u1]) (va_Qi (fun (r' : Int32) (_ : Unit) => r' = r) (fun _ t => rc_W Y sh rf σ' t.heap) (rc_A sh sz)) 0 0 (rc_A sh sz) := by
  refine Met.ofW (cc := cX9_places) (maxL := 3) (ret := (some .int)) (by decide +kernel) rfl ?_
  intro p e s m args below meth c s₁ B hml hv
  obtain ⟨rfl, hsz, hW, hK, hE⟩ := hv
  have hx := B.exec
  have hb := B.bytes
  have hr := B.returns
  have hts : ∀ w ∈ rc_big, w.before _ s = true := fun w h => atoms_spec (ws := Cond.code yX9_places cX9_places 3 (some .int) :: rc_big) B.pre w (List.mem_cons_of_mem _ h)
  have hown : s.vm.findClass RX9 = some m.cls := findClass_of_methodNamed B.named
  have hlocks := B.notSynchronized
  clear B
  subst hsz
  have hS : va_S (rc_A sh s.heap.size) s.heap s.heap [] := va_S.rf
  have hl := lv_entry ([.ref a0, .int u1]) (n := 3) (Nat.le_of_ble_eq_true rfl)
  rw [lg_entry_eq]
  generalize (lg_sl ([.ref a0, .int u1]) ++ List.replicate (3 - (lg_sl ([.ref a0, .int u1])).length) Slot.unset).toArray = ls at hl ⊢
  have hl : lv_has ls 3 [(0, .ref a0), (1, .int u1)] := hl
  unfold f_X9_places at hm
  refine lv_iload_n hx hb dX9_places_0 rfl (lv_at hl 1 rfl) ?_
  refine lv_iconst (v := 0) hx hb dX9_places_1 (by decide) ?_
  refine lv_iconst (v := 3) hx hb dX9_places_2 (by decide) ?_
  obtain ⟨w_1, σ_1, hc_1, hm0⟩ := rc_bd_inv hm
  clear hm
  refine rc_ci hS (va_runS (As := [.int u1, .int (0 : Int32), .int (3 : Int32)]) (rest := []) ⟨hx, hb, hml, hown, hts⟩ (k_X9_in l hT u1 (0 : Int32) (3 : Int32)  s.heap.size _ _ _ hc_1) (va_cwS 3 hts (rc_gS tw_7_104 tw_7_105 tw_1_14 tw_7_106) rfl rfl rfl (by decide +kernel) ⟨Nat.le_of_ble_eq_true rfl, Nat.le_of_ble_eq_true rfl⟩) (rc_preS hT hW hK hE hS [.int u1, .int (0 : Int32), .int (3 : Int32)]) rfl rfl hl.1 rfl (lv_room (Nat.le_of_ble_eq_true rfl)) dX9_places_3 ⟨Nat.le_of_ble_eq_true rfl, Nat.le_of_ble_eq_true rfl⟩) (fun H locs hW hS => ?_)
  have hm := hm0
  clear hm0 hc_1
  refine lv_if_ne (tgt := 16) hx hb dX9_places_6 (by decide) (fun c_10 => ?_) (fun c_10 => ?_)
  · replace hm := rc_f hm c_10
    refine lv_aload_n hx hb dX9_places_16 rfl (lv_at hl 0 rfl) ?_
    refine rg_10_1 hx hb hts hown hK hW h0 tw_7_22 dX9_places_17 ?_
    refine lv_iconst (v := 0) hx hb dX9_places_20 (by decide) ?_
    refine rc_ialdj (j := 0) hx hb hK hW (rc_t_10_1 hT h0) (by decide) rfl (rc_inD (by decide)) (by decide) dX9_places_21 ?_
    refine lv_topi (fun v2_2 ev => ?_)
    replace hm := rc_lt_at hm ev
    clear ev
    refine lv_istore_n (lv' := [(2, .int v2_2), (0, .ref a0), (1, .int u1)]) hx hb dX9_places_22 rfl hl (by decide) rfl (fun ls hl => ?_)
    refine lv_iload_n hx hb dX9_places_23 rfl (lv_at hl 0 rfl) ?_
    refine lv_bipush (v := 8) hx hb dX9_places_24 (by decide) ?_
    refine lv_icmp_ne (tgt := 37) hx hb dX9_places_26 (by decide) (fun c_8 => ?_) (fun c_8 => ?_)
    · replace hm := rc_f hm c_8
      refine lv_aload_n hx hb dX9_places_37 rfl (lv_at hl 1 rfl) ?_
      refine lv_iload_n hx hb dX9_places_38 rfl (lv_at hl 0 rfl) ?_
      refine lv_iconst (v := 0) hx hb dX9_places_39 (by decide) ?_
      refine lv_iload_n hx hb dX9_places_40 rfl (lv_at hl 2 rfl) ?_
      obtain ⟨w_3, σ_3, hc_3, hm0⟩ := rc_bd_inv hm
      clear hm
      refine rc_cv hS (va_runV (As := [.int v2_2, .int (0 : Int32), .int u1]) (rest := []) ⟨hx, hb, hml, hown, hts⟩ (k_X9_sets l hT a0 v2_2 (0 : Int32) u1 h0 H.size _ _ _ hc_3) (cwV 3 hts (rc_gV tw_7_123 tw_7_125 tw_p_22 tw_1_14 tw_7_126) rfl rfl rfl (by decide +kernel) ⟨Nat.le_of_ble_eq_true rfl, Nat.le_of_ble_eq_true rfl⟩) (rc_preV hT hW hK hE hS h0 (by decide) rfl (q := (RX9, TX9, 22)) rfl [.int v2_2, .int (0 : Int32), .int u1]) rfl rfl hl.1 rfl (lv_room (Nat.le_of_ble_eq_true rfl)) dX9_places_41 ⟨Nat.le_of_ble_eq_true rfl, Nat.le_of_ble_eq_true rfl⟩) (fun H locs hW hS => ?_)
      have hm := hm0
      clear hm0 hc_3
      refine lv_aload_n hx hb dX9_places_44 rfl (lv_at hl 1 rfl) ?_
      refine lv_iload_n hx hb dX9_places_45 rfl (lv_at hl 0 rfl) ?_
      obtain ⟨w_4, σ_4, hc_4, hm0⟩ := rc_bd_inv hm
      clear hm
      refine rc_cv hS (va_runV (As := [.int v2_2]) (rest := []) ⟨hx, hb, hml, hown, hts⟩ (k_X9_empties l hT a0 v2_2 h0 H.size _ _ _ hc_4) (cwV 1 hts (rc_gV tw_7_151 tw_7_153 tw_p_28 tw_1_14 tw_7_154) rfl rfl rfl (by decide +kernel) ⟨Nat.le_of_ble_eq_true rfl, Nat.le_of_ble_eq_true rfl⟩) (rc_preV hT hW hK hE hS h0 (by decide) rfl (q := (RX9, TX9, 22)) rfl [.int v2_2]) rfl rfl hl.1 rfl (lv_room (Nat.le_of_ble_eq_true rfl)) dX9_places_46 ⟨Nat.le_of_ble_eq_true rfl, Nat.le_of_ble_eq_true rfl⟩) (fun H locs hW hS => ?_)
      have hm := hm0
      clear hm0 hc_4
      refine lv_aload_n hx hb dX9_places_49 rfl (lv_at hl 1 rfl) ?_
      refine rg_10_1 hx hb hts hown hK hW h0 tw_7_22 dX9_places_50 ?_
      refine lv_iconst (v := 0) hx hb dX9_places_53 (by decide) ?_
      refine lv_iload_n hx hb dX9_places_54 rfl (lv_at hl 0 rfl) ?_
      refine lv_iconst (v := 1) hx hb dX9_places_55 (by decide) ?_
      refine lv_iadd hx hb dX9_places_56 ?_
      refine rc_iastj (j := 0) hx hb hK hW hS (rc_t_10_1 hT h0) (by decide) (fun _ => rfl) (rc_inD (by decide)) (by decide) dX9_places_57 (fun σ_5 H locs eσ hW hS => ?_)
      replace hm := rc_lt_at hm eσ
      clear eσ
      refine lv_aload_n hx hb dX9_places_58 rfl (lv_at hl 1 rfl) ?_
      refine lv_iload_n hx hb dX9_places_59 rfl (lv_at hl 0 rfl) ?_
      obtain ⟨w_6, σ_6, hc_6, hm0⟩ := rc_bd_inv hm
      clear hm
      refine rc_ci hS (va_runV (As := [.int v2_2]) (rest := []) ⟨hx, hb, hml, hown, hts⟩ (k_X9_done l hT a0 v2_2 h0 H.size _ _ _ hc_6) (cwV 1 hts (rc_gV tw_7_127 tw_7_129 tw_p_23 tw_1_14 tw_7_130) rfl rfl rfl (by decide +kernel) ⟨Nat.le_of_ble_eq_true rfl, Nat.le_of_ble_eq_true rfl⟩) (rc_preV hT hW hK hE hS h0 (by decide) rfl (q := (RX9, TX9, 22)) rfl [.int v2_2]) rfl rfl hl.1 rfl (lv_room (Nat.le_of_ble_eq_true rfl)) dX9_places_60 ⟨Nat.le_of_ble_eq_true rfl, Nat.le_of_ble_eq_true rfl⟩) (fun H locs hW hS => ?_)
      have hm := hm0
      clear hm0 hc_6
      exact rc_eiret hx hb hr hlocks hW hS (Nat.le_of_ble_eq_true rfl) (Nat.le_of_ble_eq_true rfl) hm dX9_places_63
    · replace hm := rc_t hm c_8
      refine lv_aload_n hx hb dX9_places_29 rfl (lv_at hl 1 rfl) ?_
      refine lv_iconst (v := 2) hx hb dX9_places_30 (by decide) ?_
      refine lv_bipush (v := 8) hx hb dX9_places_31 (by decide) ?_
      obtain ⟨w_7, σ_7, hc_7, hm0⟩ := rc_bd_inv hm
      clear hm
      refine rc_ci hS (va_runV (As := [.int (2 : Int32), .int (8 : Int32)]) (rest := []) ⟨hx, hb, hml, hown, hts⟩ (k_X9_refused l hT a0 (2 : Int32) (8 : Int32) h0 H.size _ _ _ hc_7) (cwV 2 hts (rc_gV tw_7_107 tw_7_109 tw_p_18 tw_1_14 tw_7_110) rfl rfl rfl (by decide +kernel) ⟨Nat.le_of_ble_eq_true rfl, Nat.le_of_ble_eq_true rfl⟩) (rc_preV hT hW hK hE hS h0 (by decide) rfl (q := (RX9, TX9, 22)) rfl [.int (2 : Int32), .int (8 : Int32)]) rfl rfl hl.1 rfl (lv_room (Nat.le_of_ble_eq_true rfl)) dX9_places_33 ⟨Nat.le_of_ble_eq_true rfl, Nat.le_of_ble_eq_true rfl⟩) (fun H locs hW hS => ?_)
      have hm := hm0
      clear hm0 hc_7
      exact rc_eiret hx hb hr hlocks hW hS (Nat.le_of_ble_eq_true rfl) (Nat.le_of_ble_eq_true rfl) hm dX9_places_36
  · replace hm := rc_t hm c_10
    refine lv_aload_n hx hb dX9_places_9 rfl (lv_at hl 0 rfl) ?_
    refine lv_iconst (v := 1) hx hb dX9_places_10 (by decide) ?_
    refine lv_iconst (v := 0) hx hb dX9_places_11 (by decide) ?_
    obtain ⟨w_9, σ_9, hc_9, hm0⟩ := rc_bd_inv hm
    clear hm
    refine rc_ci hS (va_runV (As := [.int (1 : Int32), .int (0 : Int32)]) (rest := []) ⟨hx, hb, hml, hown, hts⟩ (k_X9_refused l hT a0 (1 : Int32) (0 : Int32) h0 H.size _ _ _ hc_9) (cwV 2 hts (rc_gV tw_7_107 tw_7_109 tw_p_18 tw_1_14 tw_7_110) rfl rfl rfl (by decide +kernel) ⟨Nat.le_of_ble_eq_true rfl, Nat.le_of_ble_eq_true rfl⟩) (rc_preV hT hW hK hE hS h0 (by decide) rfl (q := (RX9, TX9, 22)) rfl [.int (1 : Int32), .int (0 : Int32)]) rfl rfl hl.1 rfl (lv_room (Nat.le_of_ble_eq_true rfl)) dX9_places_12 ⟨Nat.le_of_ble_eq_true rfl, Nat.le_of_ble_eq_true rfl⟩) (fun H locs hW hS => ?_)
    have hm := hm0
    clear hm0 hc_9
    exact rc_eiret hx hb hr hlocks hW hS (Nat.le_of_ble_eq_true rfl) (Nat.le_of_ble_eq_true rfl) hm dX9_places_15
