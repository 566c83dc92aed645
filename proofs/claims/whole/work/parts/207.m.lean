def f_X9_roofOf (rf : rc_F) (a0 : Nat) (u1 : Int32) (u2 : Int32) (σ : rc_S) : Option (Int32 × rc_S) :=
  rc_bd (f_X9_in rf u1 (0 : Int32) (3 : Int32) σ) fun w_1 σ_1 =>
  if w_1 = 0 then
    rc_lt (rc_up σ_1 a0 0 (1 : Int32)) fun σ_14 =>
    if (σ_14 a0 0) ≤ 0 then
      if u2 = 0 then
        rc_ck (rc_in ((11 : Int32) + u1) 107) <|
        some ((σ_14 (rf a0 1) ((11 : Int32) + u1).toNatClampNeg), σ_14)
      else
        rc_bd (f_X9_under rf a0 u1 u2 σ_14) fun w_15 σ_15 =>
        some (w_15, σ_15)
    else
      some ((0 : Int32), σ_14)
  else
    rc_bd (f_X9_in rf u2 (0 : Int32) (3 : Int32) σ_1) fun w_2 σ_2 =>
    if w_2 = 0 then
      rc_lt (rc_up σ_2 a0 0 (2 : Int32)) fun σ_3 =>
      if (σ_3 a0 0) ≤ 0 then
        if u2 = 0 then
          rc_ck (rc_in ((11 : Int32) + u1) 107) <|
          some ((σ_3 (rf a0 1) ((11 : Int32) + u1).toNatClampNeg), σ_3)
        else
          rc_bd (f_X9_under rf a0 u1 u2 σ_3) fun w_4 σ_4 =>
          some (w_4, σ_4)
      else
        some ((0 : Int32), σ_3)
    else
      rc_lt (rc_up σ_2 a0 0 (0 : Int32)) fun σ_8 =>
      if (σ_8 a0 0) ≤ 0 then
        if u2 = 0 then
          rc_ck (rc_in ((11 : Int32) + u1) 107) <|
          some ((σ_8 (rf a0 1) ((11 : Int32) + u1).toNatClampNeg), σ_8)
        else
          rc_bd (f_X9_under rf a0 u1 u2 σ_8) fun w_9 σ_9 =>
          some (w_9, σ_9)
      else
        some ((0 : Int32), σ_8)
def f_X9_barrelOf (rf : rc_F) (a0 : Nat) (u1 : Int32) (u2 : Int32) (σ : rc_S) : Option (Int32 × rc_S) :=
  rc_bd (f_X9_isBarrel rf a0 u1 σ) fun w_1 σ_1 =>
  if w_1 = 0 then
    rc_lt (rc_up σ_1 a0 0 (1 : Int32)) fun σ_2 =>
    if (σ_2 a0 0) ≤ 0 then
      if u2 = (0 : Int32) then
        rc_bd (f_X9_of rf a0 u1 u2 σ_2) fun w_4 σ_4 =>
        some (w_4, σ_4)
      else
      if u2 = (1 : Int32) then
        rc_bd (f_X9_of rf a0 u1 u2 σ_2) fun w_6 σ_6 =>
        some (w_6, σ_6)
      else
      if u2 = (2 : Int32) then
        rc_bd (f_X9_of rf a0 u1 u2 σ_2) fun w_8 σ_8 =>
        some (w_8, σ_8)
      else
      if u2 = (3 : Int32) then
        rc_bd (f_X9_of rf a0 u1 u2 σ_2) fun w_10 σ_10 =>
        some (w_10, σ_10)
      else
      if u2 = (4 : Int32) then
        rc_bd (f_X9_of rf a0 u1 u2 σ_2) fun w_12 σ_12 =>
        some (w_12, σ_12)
      else
      if u2 = (5 : Int32) then
        rc_bd (f_X9_ageOf rf a0 u1 σ_2) fun w_14 σ_14 =>
        some (w_14, σ_14)
      else
      if u2 = (6 : Int32) then
        rc_bd (f_X9_part rf a0 u1 σ_2) fun w_16 σ_16 =>
        some (w_16, σ_16)
      else
      rc_bd (f_X9_fails rf a0 (2 : Int32) σ_2) fun w_17 σ_17 =>
      some (w_17, σ_17)
    else
      some ((0 : Int32), σ_2)
  else
    rc_lt (rc_up σ_1 a0 0 (0 : Int32)) fun σ_19 =>
    if (σ_19 a0 0) ≤ 0 then
      if u2 = (0 : Int32) then
        rc_bd (f_X9_of rf a0 u1 u2 σ_19) fun w_21 σ_21 =>
        some (w_21, σ_21)
      else
      if u2 = (1 : Int32) then
        rc_bd (f_X9_of rf a0 u1 u2 σ_19) fun w_23 σ_23 =>
        some (w_23, σ_23)
      else
      if u2 = (2 : Int32) then
        rc_bd (f_X9_of rf a0 u1 u2 σ_19) fun w_25 σ_25 =>
        some (w_25, σ_25)
      else
      if u2 = (3 : Int32) then
        rc_bd (f_X9_of rf a0 u1 u2 σ_19) fun w_27 σ_27 =>
        some (w_27, σ_27)
      else
      if u2 = (4 : Int32) then
        rc_bd (f_X9_of rf a0 u1 u2 σ_19) fun w_29 σ_29 =>
        some (w_29, σ_29)
      else
      if u2 = (5 : Int32) then
        rc_bd (f_X9_ageOf rf a0 u1 σ_19) fun w_31 σ_31 =>
        some (w_31, σ_31)
      else
      if u2 = (6 : Int32) then
        rc_bd (f_X9_part rf a0 u1 σ_19) fun w_33 σ_33 =>
        some (w_33, σ_33)
      else
      rc_bd (f_X9_fails rf a0 (2 : Int32) σ_19) fun w_34 σ_34 =>
      some (w_34, σ_34)
    else
      some ((0 : Int32), σ_19)
def f_X9_filled (rf : rc_F) (a0 : Nat) (u1 : Int32) (σ : rc_S) : Option (Int32 × rc_S) :=
  rc_bd (f_X9_isBarrel rf a0 u1 σ) fun w_1 σ_1 =>
  if w_1 = 0 then
    some ((1 : Int32), σ_1)
  else
    rc_bd (f_X9_of rf a0 u1 (1 : Int32) σ_1) fun w_2 σ_2 =>
    if w_2 = 0 then
      some ((2 : Int32), σ_2)
    else
      some ((0 : Int32), σ_2)
def f_X9_note (rf : rc_F) (a0 : Nat) (u1 : Int32) (σ : rc_S) : Option (Int32 × rc_S) :=
  rc_bd (f_X9_filled rf a0 u1 σ) fun w_1 σ_1 =>
  rc_lt (rc_up σ_1 a0 0 w_1) fun σ_2 =>
  if (σ_2 a0 0) ≤ 0 then
    rc_bd (f_X9_noteOf rf a0 u1 (0 : Int32) σ_2) fun w_3 σ_3 =>
    some (w_3, σ_3)
  else
    some ((0 : Int32), σ_2)
def f_X9_noteAgain (rf : rc_F) (a0 : Nat) (u1 : Int32) (σ : rc_S) : Option (Int32 × rc_S) :=
  rc_bd (f_X9_note rf a0 u1 σ) fun w_1 σ_1 =>
  some (w_1, σ_1)
def f_X9_noteIn (rf : rc_F) (a0 : Nat) (u1 : Int32) (u2 : Int32) (σ : rc_S) : Option (Int32 × rc_S) :=
  rc_bd (f_X9_filled rf a0 u1 σ) fun w_1 σ_1 =>
  rc_lt (rc_up σ_1 a0 0 w_1) fun σ_2 =>
  if (σ_2 a0 0) ≤ 0 then
    rc_bd (f_X9_in rf u2 (0 : Int32) (20 : Int32) σ_2) fun w_3 σ_3 =>
    if w_3 = 0 then
      rc_lt (rc_up σ_3 a0 0 (3 : Int32)) fun σ_4 =>
      if (σ_4 a0 0) ≤ 0 then
        rc_bd (f_X9_noteOf rf a0 u1 u2 σ_4) fun w_5 σ_5 =>
        some (w_5, σ_5)
      else
        some ((0 : Int32), σ_4)
    else
      rc_lt (rc_up σ_3 a0 0 (0 : Int32)) fun σ_7 =>
      if (σ_7 a0 0) ≤ 0 then
        rc_bd (f_X9_noteOf rf a0 u1 u2 σ_7) fun w_8 σ_8 =>
        some (w_8, σ_8)
      else
        some ((0 : Int32), σ_7)
  else
    rc_lt (rc_up σ_2 a0 0 (σ_2 a0 0)) fun σ_11 =>
    if (σ_11 a0 0) ≤ 0 then
      rc_bd (f_X9_noteOf rf a0 u1 u2 σ_11) fun w_12 σ_12 =>
      some (w_12, σ_12)
    else
      some ((0 : Int32), σ_11)
def f_X9_notices (rf : rc_F) (a0 : Nat) (u1 : Int32) (u2 : Int32) (σ : rc_S) : Option (Int32 × rc_S) :=
  rc_bd (f_X9_isSommelier rf a0 u1 σ) fun w_1 σ_1 =>
  if w_1 = 0 then
    rc_lt (rc_up σ_1 a0 0 (1 : Int32)) fun σ_2 =>
    if (σ_2 a0 0) = 0 then
      rc_bd (f_X9_part rf a0 u2 σ_2) fun w_3 σ_3 =>
      rc_bd (f_X9_notes rf a0 u1 w_3 σ_3) fun w_4 σ_4 =>
      if w_4 = 0 then
        some ((0 : Int32), σ_4)
      else
        some ((1 : Int32), σ_4)
    else
      some ((0 : Int32), σ_2)
  else
    rc_bd (f_X9_isBarrel rf a0 u2 σ_1) fun w_7 σ_7 =>
    if w_7 = 0 then
      rc_lt (rc_up σ_7 a0 0 (1 : Int32)) fun σ_8 =>
      if (σ_8 a0 0) = 0 then
        rc_bd (f_X9_part rf a0 u2 σ_8) fun w_9 σ_9 =>
        rc_bd (f_X9_notes rf a0 u1 w_9 σ_9) fun w_10 σ_10 =>
        if w_10 = 0 then
          some ((0 : Int32), σ_10)
        else
          some ((1 : Int32), σ_10)
      else
        some ((0 : Int32), σ_8)
    else
      rc_lt (rc_up σ_7 a0 0 (0 : Int32)) fun σ_13 =>
      if (σ_13 a0 0) = 0 then
        rc_bd (f_X9_part rf a0 u2 σ_13) fun w_14 σ_14 =>
        rc_bd (f_X9_notes rf a0 u1 w_14 σ_14) fun w_15 σ_15 =>
        if w_15 = 0 then
          some ((0 : Int32), σ_15)
        else
          some ((1 : Int32), σ_15)
      else
        some ((0 : Int32), σ_13)
def f_X9_noticing (rf : rc_F) (a0 : Nat) (u1 : Int32) (σ : rc_S) : Option (Int32 × rc_S) :=
  rc_bd (f_X9_isBarrel rf a0 u1 σ) fun w_1 σ_1 =>
  if w_1 = 0 then
    rc_lt (rc_up σ_1 a0 0 (1 : Int32)) fun σ_2 =>
    if (σ_2 a0 0) ≤ 0 then
      rc_bd (f_X9_part rf a0 u1 σ_2) fun w_3 σ_3 =>
      rc_bd (f_X9_noses rf a0 w_3 σ_3) fun w_4 σ_4 =>
      some (w_4, σ_4)
    else
      some ((0 : Int32), σ_2)
  else
    rc_lt (rc_up σ_1 a0 0 (0 : Int32)) fun σ_6 =>
    if (σ_6 a0 0) ≤ 0 then
      rc_bd (f_X9_part rf a0 u1 σ_6) fun w_7 σ_7 =>
      rc_bd (f_X9_noses rf a0 w_7 σ_7) fun w_8 σ_8 =>
      some (w_8, σ_8)
    else
      some ((0 : Int32), σ_6)
def f_X9_hidden_73 (rf : rc_F) (a0 : Nat) (v1 : Int32) (K : Int32 → rc_S → Option (Int32 × rc_S)) : Nat → Int32 → rc_S → Option (Int32 × rc_S)
  | 0, _, _ => none
  | n + 1, v2, σ =>
    rc_bd (f_X9_of rf a0 v1 (2 : Int32) σ) fun w_7 σ_7 =>
    rc_bd (f_X9_of rf a0 v1 (1 : Int32) σ_7) fun w_8 σ_8 =>
    rc_bd (f_X9_partOf rf (w_7 + v2) (w_8 + v2) σ_8) fun w_9 σ_9 =>
    rc_bd (f_X9_noses rf a0 w_9 σ_9) fun w_10 σ_10 =>
    if w_10 = 0 then
      K v2 σ_10
    else
      rc_lt (v2 + (-1)) fun v2_11 =>
      f_X9_hidden_73 rf a0 v1 K n v2_11 σ_10
def f_X9_hidden (rf : rc_F) (a0 : Nat) (u1 : Int32) (σ : rc_S) : Option (Int32 × rc_S) :=
  rc_bd (f_X9_filled rf a0 u1 σ) fun w_1 σ_1 =>
  rc_lt (rc_up σ_1 a0 0 w_1) fun σ_2 =>
  if (σ_2 a0 0) ≤ 0 then
    rc_bd (f_X9_part rf a0 u1 σ_2) fun w_3 σ_3 =>
    rc_bd (f_X9_noses rf a0 w_3 σ_3) fun w_4 σ_4 =>
    if w_4 = 0 then
      rc_bd (f_X9_of rf a0 u1 (1 : Int32) σ_4) fun w_5 σ_5 =>
      if (σ_5 (rf a0 1) 2) ≤ ((20 : Int32) - w_5) then
        rc_lt (σ_5 (rf a0 1) 2) fun v2_6 =>
        f_X9_hidden_73 rf a0 u1 (fun v2_13 σ_14 =>
          some (v2_13, σ_14)
        ) rc_fu v2_6 σ_5
      else
        rc_bd (f_X9_of rf a0 u1 (1 : Int32) σ_5) fun w_15 σ_15 =>
        rc_lt ((20 : Int32) - w_15) fun v2_16 =>
        f_X9_hidden_73 rf a0 u1 (fun v2_17 σ_18 =>
          some (v2_17, σ_18)
        ) rc_fu v2_16 σ_15
    else
      rc_bd (f_X9_fails rf a0 (2 : Int32) σ_4) fun w_20 σ_20 =>
      some (w_20, σ_20)
  else
    some ((0 : Int32), σ_2)
def f_X9_hiddenAgain (rf : rc_F) (a0 : Nat) (u1 : Int32) (σ : rc_S) : Option (Int32 × rc_S) :=
  rc_bd (f_X9_hidden rf a0 u1 σ) fun w_1 σ_1 =>
  some (w_1, σ_1)
def f_X9_wouldCatch (rf : rc_F) (a0 : Nat) (u1 : Int32) (σ : rc_S) : Option (Int32 × rc_S) :=
  rc_bd (f_X9_in rf u1 (1 : Int32) (9 : Int32) σ) fun w_1 σ_1 =>
  if w_1 = 0 then
    rc_lt (rc_up σ_1 a0 0 (1 : Int32)) fun σ_2 =>
    if (σ_2 a0 0) ≤ 0 then
      rc_bd (f_X9_caught rf a0 (0 : Int32) u1 σ_2) fun w_3 σ_3 =>
      rc_bd (f_X9_caught rf a0 (1 : Int32) u1 σ_3) fun w_4 σ_4 =>
      rc_bd (f_X9_caught rf a0 (2 : Int32) u1 σ_4) fun w_5 σ_5 =>
      rc_bd (f_X9_caught rf a0 (3 : Int32) u1 σ_5) fun w_6 σ_6 =>
      some ((((w_3 + w_4) + w_5) + w_6), σ_6)
    else
      some ((0 : Int32), σ_2)
  else
    rc_lt (rc_up σ_1 a0 0 (0 : Int32)) fun σ_8 =>
    if (σ_8 a0 0) ≤ 0 then
      rc_bd (f_X9_caught rf a0 (0 : Int32) u1 σ_8) fun w_9 σ_9 =>
      rc_bd (f_X9_caught rf a0 (1 : Int32) u1 σ_9) fun w_10 σ_10 =>
      rc_bd (f_X9_caught rf a0 (2 : Int32) u1 σ_10) fun w_11 σ_11 =>
      rc_bd (f_X9_caught rf a0 (3 : Int32) u1 σ_11) fun w_12 σ_12 =>
      some ((((w_9 + w_10) + w_11) + w_12), σ_12)
    else
      some ((0 : Int32), σ_8)
set_option maxHeartbeats 4000000 in
set_option maxRecDepth 100000 in
theorem k_X9_roofOf (l : Launch) {Y : rc_Y} {sh : Nat → Nat} {rf : rc_F} (hT : rc_T Y sh rf) (a0 : Nat) (u1 : Int32) (u2 : Int32) (h0 : sh a0 = 10) (sz : Nat) (σ σ' : rc_S) (r : Int32) (hm : f_X9_roofOf rf a0 u1 u2 σ = some (r, σ')) : Met l yX9_roofOf (Cond.code yX9_roofOf cX9_roofOf 3 (some .int) :: rc_big) ({ frames := 2, cells := 0, slots := 0, locals := 46 } : Room) (rc_P Y sh rf σ sz [.ref a0, .int u1, .int u2]) (va_Qi (fun (r' : Int32) (_ : Unit) => r' = r) (fun _ t => rc_W Y sh rf σ' t.heap) (rc_A sh sz)) 0 0 (rc_A sh sz) := by
  refine Met.ofW (cc := cX9_roofOf) (maxL := 3) (ret := (some .int)) (by decide +kernel) rfl ?_
  intro p e s m args below meth c s₁ B hml hv
  obtain ⟨rfl, hsz, hW, hK, hE⟩ := hv
  have hx := B.exec
  have hb := B.bytes
  have hr := B.returns
  have hts : ∀ w ∈ rc_big, w.before _ s = true := fun w h => atoms_spec (ws := Cond.code yX9_roofOf cX9_roofOf 3 (some .int) :: rc_big) B.pre w (List.mem_cons_of_mem _ h)
  have hown : s.vm.findClass RX9 = some m.cls := findClass_of_methodNamed B.named
  have hlocks := B.notSynchronized
  clear B
  subst hsz
  have hS : va_S (rc_A sh s.heap.size) s.heap s.heap [] := va_S.rf
  have hl := lv_entry ([.ref a0, .int u1, .int u2]) (n := 3) (Nat.le_of_ble_eq_true rfl)
  rw [lg_entry_eq]
  generalize (lg_sl ([.ref a0, .int u1, .int u2]) ++ List.replicate (3 - (lg_sl ([.ref a0, .int u1, .int u2])).length) Slot.unset).toArray = ls at hl ⊢
  have hl : lv_has ls 3 [(0, .ref a0), (1, .int u1), (2, .int u2)] := hl
  unfold f_X9_roofOf at hm
  refine lv_aload_n hx hb dX9_roofOf_0 rfl (lv_at hl 0 rfl) ?_
  refine lv_iload_n hx hb dX9_roofOf_1 rfl (lv_at hl 1 rfl) ?_
  refine lv_iconst (v := 0) hx hb dX9_roofOf_2 (by decide) ?_
  refine lv_iconst (v := 3) hx hb dX9_roofOf_3 (by decide) ?_
  obtain ⟨w_1, σ_1, hc_1, hm0⟩ := rc_bd_inv hm
  clear hm
  refine rc_ci hS (va_runS (As := [.int u1, .int (0 : Int32), .int (3 : Int32)]) (rest := [.ref a0]) ⟨hx, hb, hml, hown, hts⟩ (k_X9_in l hT u1 (0 : Int32) (3 : Int32)  s.heap.size _ _ _ hc_1) (va_cwS 3 hts (rc_gS tw_7_152 tw_7_153 tw_1_14 tw_7_154) rfl rfl rfl (by decide +kernel) ⟨Nat.le_of_ble_eq_true rfl, Nat.le_of_ble_eq_true rfl⟩) (rc_preS hT hW hK hE hS [.int u1, .int (0 : Int32), .int (3 : Int32)]) rfl rfl hl.1 rfl (lv_room (Nat.le_of_ble_eq_true rfl)) dX9_roofOf_4 ⟨Nat.le_of_ble_eq_true rfl, Nat.le_of_ble_eq_true rfl⟩) (fun H locs hW hS => ?_)
  have hm := hm0
  clear hm0 hc_1
  refine lv_if_ne (tgt := 14) hx hb dX9_roofOf_7 (by decide) (fun c_19 => ?_) (fun c_19 => ?_)
  · replace hm := rc_f hm c_19
    refine lv_iload_n hx hb dX9_roofOf_14 rfl (lv_at hl 2 rfl) ?_
    refine lv_iconst (v := 0) hx hb dX9_roofOf_15 (by decide) ?_
    refine lv_iconst (v := 3) hx hb dX9_roofOf_16 (by decide) ?_
    obtain ⟨w_2, σ_2, hc_2, hm0⟩ := rc_bd_inv hm
    clear hm
    refine rc_ci hS (va_runS (As := [.int u2, .int (0 : Int32), .int (3 : Int32)]) (rest := [.ref a0]) ⟨hx, hb, hml, hown, hts⟩ (k_X9_in l hT u2 (0 : Int32) (3 : Int32)  H.size _ _ _ hc_2) (va_cwS 3 hts (rc_gS tw_7_152 tw_7_153 tw_1_14 tw_7_154) rfl rfl rfl (by decide +kernel) ⟨Nat.le_of_ble_eq_true rfl, Nat.le_of_ble_eq_true rfl⟩) (rc_preS hT hW hK hE hS [.int u2, .int (0 : Int32), .int (3 : Int32)]) rfl rfl hl.1 rfl (lv_room (Nat.le_of_ble_eq_true rfl)) dX9_roofOf_17 ⟨Nat.le_of_ble_eq_true rfl, Nat.le_of_ble_eq_true rfl⟩) (fun H locs hW hS => ?_)
    have hm := hm0
    clear hm0 hc_2
    refine lv_if_eq (tgt := 27) hx hb dX9_roofOf_20 (by decide) (fun c_13 => ?_) (fun c_13 => ?_)
    · replace hm := rc_t hm c_13
      refine lv_iconst (v := 2) hx hb dX9_roofOf_27 (by decide) ?_
      refine rp_10_0 hx hb hts hown hK hW hS h0 tw_7_69 dX9_roofOf_28 (fun σ_3 H locs eσ hW hS => ?_)
      replace hm := rc_lt_at hm eσ
      clear eσ
      refine lv_aload_n hx hb dX9_roofOf_31 rfl (lv_at hl 0 rfl) ?_
      refine rg_10_0 hx hb hts hown hK hW h0 tw_7_69 dX9_roofOf_32 ?_
      refine lv_if_le (tgt := 42) hx hb dX9_roofOf_35 (by decide) (fun c_7 => ?_) (fun c_7 => ?_)
      · replace hm := rc_t hm c_7
        refine lv_iload_n hx hb dX9_roofOf_42 rfl (lv_at hl 2 rfl) ?_
        refine lv_if_ne (tgt := 58) hx hb dX9_roofOf_43 (by decide) (fun c_6 => ?_) (fun c_6 => ?_)
        · replace hm := rc_f hm c_6
          refine lv_aload_n hx hb dX9_roofOf_58 rfl (lv_at hl 0 rfl) ?_
          refine lv_iload_n hx hb dX9_roofOf_59 rfl (lv_at hl 1 rfl) ?_
          refine lv_iload_n hx hb dX9_roofOf_60 rfl (lv_at hl 2 rfl) ?_
          obtain ⟨w_4, σ_4, hc_4, hm0⟩ := rc_bd_inv hm
          clear hm
          refine rc_ci hS (va_runV (As := [.int u1, .int u2]) (rest := []) ⟨hx, hb, hml, hown, hts⟩ (k_X9_under l hT a0 u1 u2 h0 H.size _ _ _ hc_4) (cwV 2 hts (rc_gV tw_8_70 tw_8_72 tw_p_46 tw_1_14 tw_8_73) rfl rfl rfl (by decide +kernel) ⟨Nat.le_of_ble_eq_true rfl, Nat.le_of_ble_eq_true rfl⟩) (rc_preV hT hW hK hE hS h0 (by decide) rfl (q := (RX9, TX9, 22)) rfl [.int u1, .int u2]) rfl rfl hl.1 rfl (lv_room (Nat.le_of_ble_eq_true rfl)) dX9_roofOf_61 ⟨Nat.le_of_ble_eq_true rfl, Nat.le_of_ble_eq_true rfl⟩) (fun H locs hW hS => ?_)
          have hm := hm0
          clear hm0 hc_4
          exact rc_eiret hx hb hr hlocks hW hS (Nat.le_of_ble_eq_true rfl) (Nat.le_of_ble_eq_true rfl) hm dX9_roofOf_64
        · replace hm := rc_t hm c_6
          refine lv_aload_n hx hb dX9_roofOf_46 rfl (lv_at hl 0 rfl) ?_
          refine rg_10_1 hx hb hts hown hK hW h0 tw_7_70 dX9_roofOf_47 ?_
          refine lv_bipush (v := 11) hx hb dX9_roofOf_50 (by decide) ?_
          refine lv_iload_n hx hb dX9_roofOf_52 rfl (lv_at hl 1 rfl) ?_
          refine lv_iadd hx hb dX9_roofOf_53 ?_
          have hi_5 := (rc_ix hm).1
          replace hm := (rc_ix hm).2
          refine rc_ialdj (j := ((11 : Int32) + u1).toNatClampNeg) hx hb hK hW (rc_t_10_1 hT h0) (by decide) rfl hi_5 rfl dX9_roofOf_54 ?_
          refine lv_goto (tgt := 64) hx hb dX9_roofOf_55 (by decide) ?_
          exact rc_eiret hx hb hr hlocks hW hS (Nat.le_of_ble_eq_true rfl) (Nat.le_of_ble_eq_true rfl) hm dX9_roofOf_64
      · replace hm := rc_f hm c_7
        refine lv_iconst (v := 0) hx hb dX9_roofOf_38 (by decide) ?_
        refine lv_goto (tgt := 64) hx hb dX9_roofOf_39 (by decide) ?_
        exact rc_eiret hx hb hr hlocks hW hS (Nat.le_of_ble_eq_true rfl) (Nat.le_of_ble_eq_true rfl) hm dX9_roofOf_64
    · replace hm := rc_f hm c_13
      refine lv_iconst (v := 0) hx hb dX9_roofOf_23 (by decide) ?_
      refine lv_goto (tgt := 28) hx hb dX9_roofOf_24 (by decide) ?_
      refine rp_10_0 hx hb hts hown hK hW hS h0 tw_7_69 dX9_roofOf_28 (fun σ_8 H locs eσ hW hS => ?_)
      replace hm := rc_lt_at hm eσ
      clear eσ
      refine lv_aload_n hx hb dX9_roofOf_31 rfl (lv_at hl 0 rfl) ?_
      refine rg_10_0 hx hb hts hown hK hW h0 tw_7_69 dX9_roofOf_32 ?_
      refine lv_if_le (tgt := 42) hx hb dX9_roofOf_35 (by decide) (fun c_12 => ?_) (fun c_12 => ?_)
      · replace hm := rc_t hm c_12
        refine lv_iload_n hx hb dX9_roofOf_42 rfl (lv_at hl 2 rfl) ?_
        refine lv_if_ne (tgt := 58) hx hb dX9_roofOf_43 (by decide) (fun c_11 => ?_) (fun c_11 => ?_)
        · replace hm := rc_f hm c_11
          refine lv_aload_n hx hb dX9_roofOf_58 rfl (lv_at hl 0 rfl) ?_
          refine lv_iload_n hx hb dX9_roofOf_59 rfl (lv_at hl 1 rfl) ?_
          refine lv_iload_n hx hb dX9_roofOf_60 rfl (lv_at hl 2 rfl) ?_
          obtain ⟨w_9, σ_9, hc_9, hm0⟩ := rc_bd_inv hm
          clear hm
          refine rc_ci hS (va_runV (As := [.int u1, .int u2]) (rest := []) ⟨hx, hb, hml, hown, hts⟩ (k_X9_under l hT a0 u1 u2 h0 H.size _ _ _ hc_9) (cwV 2 hts (rc_gV tw_8_70 tw_8_72 tw_p_46 tw_1_14 tw_8_73) rfl rfl rfl (by decide +kernel) ⟨Nat.le_of_ble_eq_true rfl, Nat.le_of_ble_eq_true rfl⟩) (rc_preV hT hW hK hE hS h0 (by decide) rfl (q := (RX9, TX9, 22)) rfl [.int u1, .int u2]) rfl rfl hl.1 rfl (lv_room (Nat.le_of_ble_eq_true rfl)) dX9_roofOf_61 ⟨Nat.le_of_ble_eq_true rfl, Nat.le_of_ble_eq_true rfl⟩) (fun H locs hW hS => ?_)
          have hm := hm0
          clear hm0 hc_9
          exact rc_eiret hx hb hr hlocks hW hS (Nat.le_of_ble_eq_true rfl) (Nat.le_of_ble_eq_true rfl) hm dX9_roofOf_64
        · replace hm := rc_t hm c_11
          refine lv_aload_n hx hb dX9_roofOf_46 rfl (lv_at hl 0 rfl) ?_
          refine rg_10_1 hx hb hts hown hK hW h0 tw_7_70 dX9_roofOf_47 ?_
          refine lv_bipush (v := 11) hx hb dX9_roofOf_50 (by decide) ?_
          refine lv_iload_n hx hb dX9_roofOf_52 rfl (lv_at hl 1 rfl) ?_
          refine lv_iadd hx hb dX9_roofOf_53 ?_
          have hi_10 := (rc_ix hm).1
          replace hm := (rc_ix hm).2
          refine rc_ialdj (j := ((11 : Int32) + u1).toNatClampNeg) hx hb hK hW (rc_t_10_1 hT h0) (by decide) rfl hi_10 rfl dX9_roofOf_54 ?_
          refine lv_goto (tgt := 64) hx hb dX9_roofOf_55 (by decide) ?_
          exact rc_eiret hx hb hr hlocks hW hS (Nat.le_of_ble_eq_true rfl) (Nat.le_of_ble_eq_true rfl) hm dX9_roofOf_64
      · replace hm := rc_f hm c_12
        refine lv_iconst (v := 0) hx hb dX9_roofOf_38 (by decide) ?_
        refine lv_goto (tgt := 64) hx hb dX9_roofOf_39 (by decide) ?_
        exact rc_eiret hx hb hr hlocks hW hS (Nat.le_of_ble_eq_true rfl) (Nat.le_of_ble_eq_true rfl) hm dX9_roofOf_64
  · replace hm := rc_t hm c_19
    refine lv_iconst (v := 1) hx hb dX9_roofOf_10 (by decide) ?_
    refine lv_goto (tgt := 28) hx hb dX9_roofOf_11 (by decide) ?_
    refine rp_10_0 hx hb hts hown hK hW hS h0 tw_7_69 dX9_roofOf_28 (fun σ_14 H locs eσ hW hS => ?_)
    replace hm := rc_lt_at hm eσ
    clear eσ
    refine lv_aload_n hx hb dX9_roofOf_31 rfl (lv_at hl 0 rfl) ?_
    refine rg_10_0 hx hb hts hown hK hW h0 tw_7_69 dX9_roofOf_32 ?_
    refine lv_if_le (tgt := 42) hx hb dX9_roofOf_35 (by decide) (fun c_18 => ?_) (fun c_18 => ?_)
    · replace hm := rc_t hm c_18
      refine lv_iload_n hx hb dX9_roofOf_42 rfl (lv_at hl 2 rfl) ?_
      refine lv_if_ne (tgt := 58) hx hb dX9_roofOf_43 (by decide) (fun c_17 => ?_) (fun c_17 => ?_)
      · replace hm := rc_f hm c_17
        refine lv_aload_n hx hb dX9_roofOf_58 rfl (lv_at hl 0 rfl) ?_
        refine lv_iload_n hx hb dX9_roofOf_59 rfl (lv_at hl 1 rfl) ?_
        refine lv_iload_n hx hb dX9_roofOf_60 rfl (lv_at hl 2 rfl) ?_
        obtain ⟨w_15, σ_15, hc_15, hm0⟩ := rc_bd_inv hm
        clear hm
        refine rc_ci hS (va_runV (As := [.int u1, .int u2]) (rest := []) ⟨hx, hb, hml, hown, hts⟩ (k_X9_under l hT a0 u1 u2 h0 H.size _ _ _ hc_15) (cwV 2 hts (rc_gV tw_8_70 tw_8_72 tw_p_46 tw_1_14 tw_8_73) rfl rfl rfl (by decide +kernel) ⟨Nat.le_of_ble_eq_true rfl, Nat.le_of_ble_eq_true rfl⟩) (rc_preV hT hW hK hE hS h0 (by decide) rfl (q := (RX9, TX9, 22)) rfl [.int u1, .int u2]) rfl rfl hl.1 rfl (lv_room (Nat.le_of_ble_eq_true rfl)) dX9_roofOf_61 ⟨Nat.le_of_ble_eq_true rfl, Nat.le_of_ble_eq_true rfl⟩) (fun H locs hW hS => ?_)
        have hm := hm0
        clear hm0 hc_15
        exact rc_eiret hx hb hr hlocks hW hS (Nat.le_of_ble_eq_true rfl) (Nat.le_of_ble_eq_true rfl) hm dX9_roofOf_64
      · replace hm := rc_t hm c_17
        refine lv_aload_n hx hb dX9_roofOf_46 rfl (lv_at hl 0 rfl) ?_
        refine rg_10_1 hx hb hts hown hK hW h0 tw_7_70 dX9_roofOf_47 ?_
        refine lv_bipush (v := 11) hx hb dX9_roofOf_50 (by decide) ?_
        refine lv_iload_n hx hb dX9_roofOf_52 rfl (lv_at hl 1 rfl) ?_
        refine lv_iadd hx hb dX9_roofOf_53 ?_
        have hi_16 := (rc_ix hm).1
        replace hm := (rc_ix hm).2
        refine rc_ialdj (j := ((11 : Int32) + u1).toNatClampNeg) hx hb hK hW (rc_t_10_1 hT h0) (by decide) rfl hi_16 rfl dX9_roofOf_54 ?_
        refine lv_goto (tgt := 64) hx hb dX9_roofOf_55 (by decide) ?_
        exact rc_eiret hx hb hr hlocks hW hS (Nat.le_of_ble_eq_true rfl) (Nat.le_of_ble_eq_true rfl) hm dX9_roofOf_64
    · replace hm := rc_f hm c_18
      refine lv_iconst (v := 0) hx hb dX9_roofOf_38 (by decide) ?_
      refine lv_goto (tgt := 64) hx hb dX9_roofOf_39 (by decide) ?_
      exact rc_eiret hx hb hr hlocks hW hS (Nat.le_of_ble_eq_true rfl) (Nat.le_of_ble_eq_true rfl) hm dX9_roofOf_64
set_option maxHeartbeats 4000000 in
set_option maxRecDepth 100000 in
theorem k_X9_barrelOf (l : Launch) {Y : rc_Y} {sh : Nat → Nat} {rf : rc_F} (hT : rc_T Y sh rf) (a0 : Nat) (u1 : Int32) (u2 : Int32) (h0 : sh a0 = 10) (sz : Nat) (σ σ' : rc_S) (r : Int32) (hm : f_X9_barrelOf rf a0 u1 u2 σ = some (r, σ')) : Met l yX9_barrelOf (Cond.code yX9_barrelOf cX9_barrelOf 3 (some .int) :: rc_big) ({ frames := 2, cells := 0, slots := 0, locals := 43 } : Room) (rc_P Y sh rf σ sz [.ref a0, .int u1, .int u2]) (va_Qi (fun (r' : Int32) (_ : Unit) => r' = r) (fun _ t => rc_W Y sh rf σ' t.heap) (rc_A sh sz)) 0 0 (rc_A sh sz) := by
  refine Met.ofW (cc := cX9_barrelOf) (maxL := 3) (ret := (some .int)) (by decide +kernel) rfl ?_
  intro p e s m args below meth c s₁ B hml hv
  obtain ⟨rfl, hsz, hW, hK, hE⟩ := hv
  have hx := B.exec
  have hb := B.bytes
  have hr := B.returns
  have hts : ∀ w ∈ rc_big, w.before _ s = true := fun w h => atoms_spec (ws := Cond.code yX9_barrelOf cX9_barrelOf 3 (some .int) :: rc_big) B.pre w (List.mem_cons_of_mem _ h)
  have hown : s.vm.findClass RX9 = some m.cls := findClass_of_methodNamed B.named
  have hlocks := B.notSynchronized
  clear B
  subst hsz
  have hS : va_S (rc_A sh s.heap.size) s.heap s.heap [] := va_S.rf
  have hl := lv_entry ([.ref a0, .int u1, .int u2]) (n := 3) (Nat.le_of_ble_eq_true rfl)
  rw [lg_entry_eq]
  generalize (lg_sl ([.ref a0, .int u1, .int u2]) ++ List.replicate (3 - (lg_sl ([.ref a0, .int u1, .int u2])).length) Slot.unset).toArray = ls at hl ⊢
  have hl : lv_has ls 3 [(0, .ref a0), (1, .int u1), (2, .int u2)] := hl
  unfold f_X9_barrelOf at hm
  refine lv_aload_n hx hb dX9_barrelOf_0 rfl (lv_at hl 0 rfl) ?_
  refine lv_aload_n hx hb dX9_barrelOf_1 rfl (lv_at hl 0 rfl) ?_
  refine lv_iload_n hx hb dX9_barrelOf_2 rfl (lv_at hl 1 rfl) ?_
  obtain ⟨w_1, σ_1, hc_1, hm0⟩ := rc_bd_inv hm
  clear hm
  refine rc_ci hS (va_runV (As := [.int u1]) (rest := [.ref a0]) ⟨hx, hb, hml, hown, hts⟩ (k_X9_isBarrel l hT a0 u1 h0 s.heap.size _ _ _ hc_1) (cwV 1 hts (rc_gV tw_7_211 tw_7_213 tw_p_30 tw_1_14 tw_7_214) rfl rfl rfl (by decide +kernel) ⟨Nat.le_of_ble_eq_true rfl, Nat.le_of_ble_eq_true rfl⟩) (rc_preV hT hW hK hE hS h0 (by decide) rfl (q := (RX9, TX9, 22)) rfl [.int u1]) rfl rfl hl.1 rfl (lv_room (Nat.le_of_ble_eq_true rfl)) dX9_barrelOf_3 ⟨Nat.le_of_ble_eq_true rfl, Nat.le_of_ble_eq_true rfl⟩) (fun H locs hW hS => ?_)
  have hm := hm0
  clear hm0 hc_1
  refine lv_if_eq (tgt := 13) hx hb dX9_barrelOf_6 (by decide) (fun c_36 => ?_) (fun c_36 => ?_)
  · replace hm := rc_t hm c_36
    refine lv_iconst (v := 1) hx hb dX9_barrelOf_13 (by decide) ?_
    refine rp_10_0 hx hb hts hown hK hW hS h0 tw_7_69 dX9_barrelOf_14 (fun σ_2 H locs eσ hW hS => ?_)
    replace hm := rc_lt_at hm eσ
    clear eσ
    refine lv_aload_n hx hb dX9_barrelOf_17 rfl (lv_at hl 0 rfl) ?_
    refine rg_10_0 hx hb hts hown hK hW h0 tw_7_69 dX9_barrelOf_18 ?_
    refine lv_if_le (tgt := 26) hx hb dX9_barrelOf_21 (by decide) (fun c_18 => ?_) (fun c_18 => ?_)
    · replace hm := rc_t hm c_18
      refine lv_iload_n hx hb dX9_barrelOf_26 rfl (lv_at hl 2 rfl) ?_
      by_cases c_3 : u2 = (0 : Int32)
      · replace hm := rc_t hm c_3
        refine lv_tableIn (off := 41) (tgt := 68) hx hb dX9_barrelOf_27 (by rw [c_3]; decide) (by rw [c_3]; decide) (by rw [c_3]; decide) (by decide) ?_
        refine lv_aload_n hx hb dX9_barrelOf_68 rfl (lv_at hl 0 rfl) ?_
        refine lv_iload_n hx hb dX9_barrelOf_69 rfl (lv_at hl 1 rfl) ?_
        refine lv_iload_n hx hb dX9_barrelOf_70 rfl (lv_at hl 2 rfl) ?_
        obtain ⟨w_4, σ_4, hc_4, hm0⟩ := rc_bd_inv hm
        clear hm
        refine rc_ci hS (va_runV (As := [.int u1, .int u2]) (rest := []) ⟨hx, hb, hml, hown, hts⟩ (k_X9_of l hT a0 u1 u2 h0 H.size _ _ _ hc_4) (cwV 2 hts (rc_gV tw_7_163 tw_7_165 tw_p_20 tw_1_14 tw_7_166) rfl rfl rfl (by decide +kernel) ⟨Nat.le_of_ble_eq_true rfl, Nat.le_of_ble_eq_true rfl⟩) (rc_preV hT hW hK hE hS h0 (by decide) rfl (q := (RX9, TX9, 22)) rfl [.int u1, .int u2]) rfl rfl hl.1 rfl (lv_room (Nat.le_of_ble_eq_true rfl)) dX9_barrelOf_71 ⟨Nat.le_of_ble_eq_true rfl, Nat.le_of_ble_eq_true rfl⟩) (fun H locs hW hS => ?_)
        have hm := hm0
        clear hm0 hc_4
        exact rc_eiret hx hb hr hlocks hW hS (Nat.le_of_ble_eq_true rfl) (Nat.le_of_ble_eq_true rfl) hm dX9_barrelOf_74
      · replace hm := rc_f hm c_3
        by_cases c_5 : u2 = (1 : Int32)
        · replace hm := rc_t hm c_5
          refine lv_tableIn (off := 41) (tgt := 68) hx hb dX9_barrelOf_27 (by rw [c_5]; decide) (by rw [c_5]; decide) (by rw [c_5]; decide) (by decide) ?_
          refine lv_aload_n hx hb dX9_barrelOf_68 rfl (lv_at hl 0 rfl) ?_
          refine lv_iload_n hx hb dX9_barrelOf_69 rfl (lv_at hl 1 rfl) ?_
          refine lv_iload_n hx hb dX9_barrelOf_70 rfl (lv_at hl 2 rfl) ?_
          obtain ⟨w_6, σ_6, hc_6, hm0⟩ := rc_bd_inv hm
          clear hm
          refine rc_ci hS (va_runV (As := [.int u1, .int u2]) (rest := []) ⟨hx, hb, hml, hown, hts⟩ (k_X9_of l hT a0 u1 u2 h0 H.size _ _ _ hc_6) (cwV 2 hts (rc_gV tw_7_163 tw_7_165 tw_p_20 tw_1_14 tw_7_166) rfl rfl rfl (by decide +kernel) ⟨Nat.le_of_ble_eq_true rfl, Nat.le_of_ble_eq_true rfl⟩) (rc_preV hT hW hK hE hS h0 (by decide) rfl (q := (RX9, TX9, 22)) rfl [.int u1, .int u2]) rfl rfl hl.1 rfl (lv_room (Nat.le_of_ble_eq_true rfl)) dX9_barrelOf_71 ⟨Nat.le_of_ble_eq_true rfl, Nat.le_of_ble_eq_true rfl⟩) (fun H locs hW hS => ?_)
          have hm := hm0
          clear hm0 hc_6
          exact rc_eiret hx hb hr hlocks hW hS (Nat.le_of_ble_eq_true rfl) (Nat.le_of_ble_eq_true rfl) hm dX9_barrelOf_74
        · replace hm := rc_f hm c_5
          by_cases c_7 : u2 = (2 : Int32)
          · replace hm := rc_t hm c_7
            refine lv_tableIn (off := 41) (tgt := 68) hx hb dX9_barrelOf_27 (by rw [c_7]; decide) (by rw [c_7]; decide) (by rw [c_7]; decide) (by decide) ?_
            refine lv_aload_n hx hb dX9_barrelOf_68 rfl (lv_at hl 0 rfl) ?_
            refine lv_iload_n hx hb dX9_barrelOf_69 rfl (lv_at hl 1 rfl) ?_
            refine lv_iload_n hx hb dX9_barrelOf_70 rfl (lv_at hl 2 rfl) ?_
            obtain ⟨w_8, σ_8, hc_8, hm0⟩ := rc_bd_inv hm
            clear hm
            refine rc_ci hS (va_runV (As := [.int u1, .int u2]) (rest := []) ⟨hx, hb, hml, hown, hts⟩ (k_X9_of l hT a0 u1 u2 h0 H.size _ _ _ hc_8) (cwV 2 hts (rc_gV tw_7_163 tw_7_165 tw_p_20 tw_1_14 tw_7_166) rfl rfl rfl (by decide +kernel) ⟨Nat.le_of_ble_eq_true rfl, Nat.le_of_ble_eq_true rfl⟩) (rc_preV hT hW hK hE hS h0 (by decide) rfl (q := (RX9, TX9, 22)) rfl [.int u1, .int u2]) rfl rfl hl.1 rfl (lv_room (Nat.le_of_ble_eq_true rfl)) dX9_barrelOf_71 ⟨Nat.le_of_ble_eq_true rfl, Nat.le_of_ble_eq_true rfl⟩) (fun H locs hW hS => ?_)
            have hm := hm0
            clear hm0 hc_8
            exact rc_eiret hx hb hr hlocks hW hS (Nat.le_of_ble_eq_true rfl) (Nat.le_of_ble_eq_true rfl) hm dX9_barrelOf_74
          · replace hm := rc_f hm c_7
            by_cases c_9 : u2 = (3 : Int32)
            · replace hm := rc_t hm c_9
              refine lv_tableIn (off := 41) (tgt := 68) hx hb dX9_barrelOf_27 (by rw [c_9]; decide) (by rw [c_9]; decide) (by rw [c_9]; decide) (by decide) ?_
              refine lv_aload_n hx hb dX9_barrelOf_68 rfl (lv_at hl 0 rfl) ?_
              refine lv_iload_n hx hb dX9_barrelOf_69 rfl (lv_at hl 1 rfl) ?_
              refine lv_iload_n hx hb dX9_barrelOf_70 rfl (lv_at hl 2 rfl) ?_
              obtain ⟨w_10, σ_10, hc_10, hm0⟩ := rc_bd_inv hm
              clear hm
              refine rc_ci hS (va_runV (As := [.int u1, .int u2]) (rest := []) ⟨hx, hb, hml, hown, hts⟩ (k_X9_of l hT a0 u1 u2 h0 H.size _ _ _ hc_10) (cwV 2 hts (rc_gV tw_7_163 tw_7_165 tw_p_20 tw_1_14 tw_7_166) rfl rfl rfl (by decide +kernel) ⟨Nat.le_of_ble_eq_true rfl, Nat.le_of_ble_eq_true rfl⟩) (rc_preV hT hW hK hE hS h0 (by decide) rfl (q := (RX9, TX9, 22)) rfl [.int u1, .int u2]) rfl rfl hl.1 rfl (lv_room (Nat.le_of_ble_eq_true rfl)) dX9_barrelOf_71 ⟨Nat.le_of_ble_eq_true rfl, Nat.le_of_ble_eq_true rfl⟩) (fun H locs hW hS => ?_)
              have hm := hm0
              clear hm0 hc_10
              exact rc_eiret hx hb hr hlocks hW hS (Nat.le_of_ble_eq_true rfl) (Nat.le_of_ble_eq_true rfl) hm dX9_barrelOf_74
            · replace hm := rc_f hm c_9
              by_cases c_11 : u2 = (4 : Int32)
              · replace hm := rc_t hm c_11
                refine lv_tableIn (off := 41) (tgt := 68) hx hb dX9_barrelOf_27 (by rw [c_11]; decide) (by rw [c_11]; decide) (by rw [c_11]; decide) (by decide) ?_
                refine lv_aload_n hx hb dX9_barrelOf_68 rfl (lv_at hl 0 rfl) ?_
                refine lv_iload_n hx hb dX9_barrelOf_69 rfl (lv_at hl 1 rfl) ?_
                refine lv_iload_n hx hb dX9_barrelOf_70 rfl (lv_at hl 2 rfl) ?_
                obtain ⟨w_12, σ_12, hc_12, hm0⟩ := rc_bd_inv hm
                clear hm
                refine rc_ci hS (va_runV (As := [.int u1, .int u2]) (rest := []) ⟨hx, hb, hml, hown, hts⟩ (k_X9_of l hT a0 u1 u2 h0 H.size _ _ _ hc_12) (cwV 2 hts (rc_gV tw_7_163 tw_7_165 tw_p_20 tw_1_14 tw_7_166) rfl rfl rfl (by decide +kernel) ⟨Nat.le_of_ble_eq_true rfl, Nat.le_of_ble_eq_true rfl⟩) (rc_preV hT hW hK hE hS h0 (by decide) rfl (q := (RX9, TX9, 22)) rfl [.int u1, .int u2]) rfl rfl hl.1 rfl (lv_room (Nat.le_of_ble_eq_true rfl)) dX9_barrelOf_71 ⟨Nat.le_of_ble_eq_true rfl, Nat.le_of_ble_eq_true rfl⟩) (fun H locs hW hS => ?_)
                have hm := hm0
                clear hm0 hc_12
                exact rc_eiret hx hb hr hlocks hW hS (Nat.le_of_ble_eq_true rfl) (Nat.le_of_ble_eq_true rfl) hm dX9_barrelOf_74
              · replace hm := rc_f hm c_11
                by_cases c_13 : u2 = (5 : Int32)
                · replace hm := rc_t hm c_13
                  refine lv_tableIn (off := 48) (tgt := 75) hx hb dX9_barrelOf_27 (by rw [c_13]; decide) (by rw [c_13]; decide) (by rw [c_13]; decide) (by decide) ?_
                  refine lv_aload_n hx hb dX9_barrelOf_75 rfl (lv_at hl 0 rfl) ?_
                  refine lv_iload_n hx hb dX9_barrelOf_76 rfl (lv_at hl 1 rfl) ?_
                  obtain ⟨w_14, σ_14, hc_14, hm0⟩ := rc_bd_inv hm
                  clear hm
                  refine rc_ci hS (va_runV (As := [.int u1]) (rest := []) ⟨hx, hb, hml, hown, hts⟩ (k_X9_ageOf l hT a0 u1 h0 H.size _ _ _ hc_14) (cwV 1 hts (rc_gV tw_8_46 tw_8_48 tw_p_43 tw_1_14 tw_8_49) rfl rfl rfl (by decide +kernel) ⟨Nat.le_of_ble_eq_true rfl, Nat.le_of_ble_eq_true rfl⟩) (rc_preV hT hW hK hE hS h0 (by decide) rfl (q := (RX9, TX9, 22)) rfl [.int u1]) rfl rfl hl.1 rfl (lv_room (Nat.le_of_ble_eq_true rfl)) dX9_barrelOf_77 ⟨Nat.le_of_ble_eq_true rfl, Nat.le_of_ble_eq_true rfl⟩) (fun H locs hW hS => ?_)
                  have hm := hm0
                  clear hm0 hc_14
                  exact rc_eiret hx hb hr hlocks hW hS (Nat.le_of_ble_eq_true rfl) (Nat.le_of_ble_eq_true rfl) hm dX9_barrelOf_80
                · replace hm := rc_f hm c_13
                  by_cases c_15 : u2 = (6 : Int32)
                  · replace hm := rc_t hm c_15
                    refine lv_tableIn (off := 54) (tgt := 81) hx hb dX9_barrelOf_27 (by rw [c_15]; decide) (by rw [c_15]; decide) (by rw [c_15]; decide) (by decide) ?_
                    refine lv_aload_n hx hb dX9_barrelOf_81 rfl (lv_at hl 0 rfl) ?_
                    refine lv_iload_n hx hb dX9_barrelOf_82 rfl (lv_at hl 1 rfl) ?_
                    obtain ⟨w_16, σ_16, hc_16, hm0⟩ := rc_bd_inv hm
                    clear hm
                    refine rc_ci hS (va_runV (As := [.int u1]) (rest := []) ⟨hx, hb, hml, hown, hts⟩ (k_X9_part l hT a0 u1 h0 H.size _ _ _ hc_16) (cwV 1 hts (rc_gV tw_7_227 tw_7_229 tw_p_33 tw_1_14 tw_7_230) rfl rfl rfl (by decide +kernel) ⟨Nat.le_of_ble_eq_true rfl, Nat.le_of_ble_eq_true rfl⟩) (rc_preV hT hW hK hE hS h0 (by decide) rfl (q := (RX9, TX9, 22)) rfl [.int u1]) rfl rfl hl.1 rfl (lv_room (Nat.le_of_ble_eq_true rfl)) dX9_barrelOf_83 ⟨Nat.le_of_ble_eq_true rfl, Nat.le_of_ble_eq_true rfl⟩) (fun H locs hW hS => ?_)
                    have hm := hm0
                    clear hm0 hc_16
                    exact rc_eiret hx hb hr hlocks hW hS (Nat.le_of_ble_eq_true rfl) (Nat.le_of_ble_eq_true rfl) hm dX9_barrelOf_86
                  · replace hm := rc_f hm c_15
                    refine rc_tblD (tgt := 87) hx hb dX9_barrelOf_27 [0, 1, 2, 3, 4, 5, 6] (by decide +kernel) (by decide +kernel) (rc_nk c_3 (by decide) (rc_nk c_5 (by decide) (rc_nk c_7 (by decide) (rc_nk c_9 (by decide) (rc_nk c_11 (by decide) (rc_nk c_13 (by decide) (rc_nk c_15 (by decide) rc_nk0))))))) (by decide) ?_
                    refine lv_aload_n hx hb dX9_barrelOf_87 rfl (lv_at hl 0 rfl) ?_
                    refine lv_iconst (v := 2) hx hb dX9_barrelOf_88 (by decide) ?_
                    obtain ⟨w_17, σ_17, hc_17, hm0⟩ := rc_bd_inv hm
                    clear hm
                    refine rc_ci hS (va_runV (As := [.int (2 : Int32)]) (rest := []) ⟨hx, hb, hml, hown, hts⟩ (k_X9_fails l hT a0 (2 : Int32) h0 H.size _ _ _ hc_17) (cwV 1 hts (rc_gV tw_7_187 tw_7_189 tw_p_26 tw_1_14 tw_7_190) rfl rfl rfl (by decide +kernel) ⟨Nat.le_of_ble_eq_true rfl, Nat.le_of_ble_eq_true rfl⟩) (rc_preV hT hW hK hE hS h0 (by decide) rfl (q := (RX9, TX9, 22)) rfl [.int (2 : Int32)]) rfl rfl hl.1 rfl (lv_room (Nat.le_of_ble_eq_true rfl)) dX9_barrelOf_89 ⟨Nat.le_of_ble_eq_true rfl, Nat.le_of_ble_eq_true rfl⟩) (fun H locs hW hS => ?_)
                    have hm := hm0
                    clear hm0 hc_17
                    exact rc_eiret hx hb hr hlocks hW hS (Nat.le_of_ble_eq_true rfl) (Nat.le_of_ble_eq_true rfl) hm dX9_barrelOf_92
    · replace hm := rc_f hm c_18
      refine lv_iconst (v := 0) hx hb dX9_barrelOf_24 (by decide) ?_
      exact rc_eiret hx hb hr hlocks hW hS (Nat.le_of_ble_eq_true rfl) (Nat.le_of_ble_eq_true rfl) hm dX9_barrelOf_25
  · replace hm := rc_f hm c_36
    refine lv_iconst (v := 0) hx hb dX9_barrelOf_9 (by decide) ?_
    refine lv_goto (tgt := 14) hx hb dX9_barrelOf_10 (by decide) ?_
    refine rp_10_0 hx hb hts hown hK hW hS h0 tw_7_69 dX9_barrelOf_14 (fun σ_19 H locs eσ hW hS => ?_)
    replace hm := rc_lt_at hm eσ
    clear eσ
    refine lv_aload_n hx hb dX9_barrelOf_17 rfl (lv_at hl 0 rfl) ?_
    refine rg_10_0 hx hb hts hown hK hW h0 tw_7_69 dX9_barrelOf_18 ?_
    refine lv_if_le (tgt := 26) hx hb dX9_barrelOf_21 (by decide) (fun c_35 => ?_) (fun c_35 => ?_)
    · replace hm := rc_t hm c_35
      refine lv_iload_n hx hb dX9_barrelOf_26 rfl (lv_at hl 2 rfl) ?_
      by_cases c_20 : u2 = (0 : Int32)
      · replace hm := rc_t hm c_20
        refine lv_tableIn (off := 41) (tgt := 68) hx hb dX9_barrelOf_27 (by rw [c_20]; decide) (by rw [c_20]; decide) (by rw [c_20]; decide) (by decide) ?_
        refine lv_aload_n hx hb dX9_barrelOf_68 rfl (lv_at hl 0 rfl) ?_
        refine lv_iload_n hx hb dX9_barrelOf_69 rfl (lv_at hl 1 rfl) ?_
        refine lv_iload_n hx hb dX9_barrelOf_70 rfl (lv_at hl 2 rfl) ?_
        obtain ⟨w_21, σ_21, hc_21, hm0⟩ := rc_bd_inv hm
        clear hm
        refine rc_ci hS (va_runV (As := [.int u1, .int u2]) (rest := []) ⟨hx, hb, hml, hown, hts⟩ (k_X9_of l hT a0 u1 u2 h0 H.size _ _ _ hc_21) (cwV 2 hts (rc_gV tw_7_163 tw_7_165 tw_p_20 tw_1_14 tw_7_166) rfl rfl rfl (by decide +kernel) ⟨Nat.le_of_ble_eq_true rfl, Nat.le_of_ble_eq_true rfl⟩) (rc_preV hT hW hK hE hS h0 (by decide) rfl (q := (RX9, TX9, 22)) rfl [.int u1, .int u2]) rfl rfl hl.1 rfl (lv_room (Nat.le_of_ble_eq_true rfl)) dX9_barrelOf_71 ⟨Nat.le_of_ble_eq_true rfl, Nat.le_of_ble_eq_true rfl⟩) (fun H locs hW hS => ?_)
        have hm := hm0
        clear hm0 hc_21
        exact rc_eiret hx hb hr hlocks hW hS (Nat.le_of_ble_eq_true rfl) (Nat.le_of_ble_eq_true rfl) hm dX9_barrelOf_74
      · replace hm := rc_f hm c_20
        by_cases c_22 : u2 = (1 : Int32)
        · replace hm := rc_t hm c_22
          refine lv_tableIn (off := 41) (tgt := 68) hx hb dX9_barrelOf_27 (by rw [c_22]; decide) (by rw [c_22]; decide) (by rw [c_22]; decide) (by decide) ?_
          refine lv_aload_n hx hb dX9_barrelOf_68 rfl (lv_at hl 0 rfl) ?_
          refine lv_iload_n hx hb dX9_barrelOf_69 rfl (lv_at hl 1 rfl) ?_
          refine lv_iload_n hx hb dX9_barrelOf_70 rfl (lv_at hl 2 rfl) ?_
          obtain ⟨w_23, σ_23, hc_23, hm0⟩ := rc_bd_inv hm
          clear hm
          refine rc_ci hS (va_runV (As := [.int u1, .int u2]) (rest := []) ⟨hx, hb, hml, hown, hts⟩ (k_X9_of l hT a0 u1 u2 h0 H.size _ _ _ hc_23) (cwV 2 hts (rc_gV tw_7_163 tw_7_165 tw_p_20 tw_1_14 tw_7_166) rfl rfl rfl (by decide +kernel) ⟨Nat.le_of_ble_eq_true rfl, Nat.le_of_ble_eq_true rfl⟩) (rc_preV hT hW hK hE hS h0 (by decide) rfl (q := (RX9, TX9, 22)) rfl [.int u1, .int u2]) rfl rfl hl.1 rfl (lv_room (Nat.le_of_ble_eq_true rfl)) dX9_barrelOf_71 ⟨Nat.le_of_ble_eq_true rfl, Nat.le_of_ble_eq_true rfl⟩) (fun H locs hW hS => ?_)
          have hm := hm0
          clear hm0 hc_23
          exact rc_eiret hx hb hr hlocks hW hS (Nat.le_of_ble_eq_true rfl) (Nat.le_of_ble_eq_true rfl) hm dX9_barrelOf_74
        · replace hm := rc_f hm c_22
          by_cases c_24 : u2 = (2 : Int32)
          · replace hm := rc_t hm c_24
            refine lv_tableIn (off := 41) (tgt := 68) hx hb dX9_barrelOf_27 (by rw [c_24]; decide) (by rw [c_24]; decide) (by rw [c_24]; decide) (by decide) ?_
            refine lv_aload_n hx hb dX9_barrelOf_68 rfl (lv_at hl 0 rfl) ?_
            refine lv_iload_n hx hb dX9_barrelOf_69 rfl (lv_at hl 1 rfl) ?_
            refine lv_iload_n hx hb dX9_barrelOf_70 rfl (lv_at hl 2 rfl) ?_
            obtain ⟨w_25, σ_25, hc_25, hm0⟩ := rc_bd_inv hm
            clear hm
            refine rc_ci hS (va_runV (As := [.int u1, .int u2]) (rest := []) ⟨hx, hb, hml, hown, hts⟩ (k_X9_of l hT a0 u1 u2 h0 H.size _ _ _ hc_25) (cwV 2 hts (rc_gV tw_7_163 tw_7_165 tw_p_20 tw_1_14 tw_7_166) rfl rfl rfl (by decide +kernel) ⟨Nat.le_of_ble_eq_true rfl, Nat.le_of_ble_eq_true rfl⟩) (rc_preV hT hW hK hE hS h0 (by decide) rfl (q := (RX9, TX9, 22)) rfl [.int u1, .int u2]) rfl rfl hl.1 rfl (lv_room (Nat.le_of_ble_eq_true rfl)) dX9_barrelOf_71 ⟨Nat.le_of_ble_eq_true rfl, Nat.le_of_ble_eq_true rfl⟩) (fun H locs hW hS => ?_)
            have hm := hm0
            clear hm0 hc_25
            exact rc_eiret hx hb hr hlocks hW hS (Nat.le_of_ble_eq_true rfl) (Nat.le_of_ble_eq_true rfl) hm dX9_barrelOf_74
          · replace hm := rc_f hm c_24
            by_cases c_26 : u2 = (3 : Int32)
            · replace hm := rc_t hm c_26
              refine lv_tableIn (off := 41) (tgt := 68) hx hb dX9_barrelOf_27 (by rw [c_26]; decide) (by rw [c_26]; decide) (by rw [c_26]; decide) (by decide) ?_
              refine lv_aload_n hx hb dX9_barrelOf_68 rfl (lv_at hl 0 rfl) ?_
              refine lv_iload_n hx hb dX9_barrelOf_69 rfl (lv_at hl 1 rfl) ?_
              refine lv_iload_n hx hb dX9_barrelOf_70 rfl (lv_at hl 2 rfl) ?_
              obtain ⟨w_27, σ_27, hc_27, hm0⟩ := rc_bd_inv hm
              clear hm
              refine rc_ci hS (va_runV (As := [.int u1, .int u2]) (rest := []) ⟨hx, hb, hml, hown, hts⟩ (k_X9_of l hT a0 u1 u2 h0 H.size _ _ _ hc_27) (cwV 2 hts (rc_gV tw_7_163 tw_7_165 tw_p_20 tw_1_14 tw_7_166) rfl rfl rfl (by decide +kernel) ⟨Nat.le_of_ble_eq_true rfl, Nat.le_of_ble_eq_true rfl⟩) (rc_preV hT hW hK hE hS h0 (by decide) rfl (q := (RX9, TX9, 22)) rfl [.int u1, .int u2]) rfl rfl hl.1 rfl (lv_room (Nat.le_of_ble_eq_true rfl)) dX9_barrelOf_71 ⟨Nat.le_of_ble_eq_true rfl, Nat.le_of_ble_eq_true rfl⟩) (fun H locs hW hS => ?_)
              have hm := hm0
              clear hm0 hc_27
              exact rc_eiret hx hb hr hlocks hW hS (Nat.le_of_ble_eq_true rfl) (Nat.le_of_ble_eq_true rfl) hm dX9_barrelOf_74
            · replace hm := rc_f hm c_26
              by_cases c_28 : u2 = (4 : Int32)
              · replace hm := rc_t hm c_28
                refine lv_tableIn (off := 41) (tgt := 68) hx hb dX9_barrelOf_27 (by rw [c_28]; decide) (by rw [c_28]; decide) (by rw [c_28]; decide) (by decide) ?_
                refine lv_aload_n hx hb dX9_barrelOf_68 rfl (lv_at hl 0 rfl) ?_
                refine lv_iload_n hx hb dX9_barrelOf_69 rfl (lv_at hl 1 rfl) ?_
                refine lv_iload_n hx hb dX9_barrelOf_70 rfl (lv_at hl 2 rfl) ?_
                obtain ⟨w_29, σ_29, hc_29, hm0⟩ := rc_bd_inv hm
                clear hm
                refine rc_ci hS (va_runV (As := [.int u1, .int u2]) (rest := []) ⟨hx, hb, hml, hown, hts⟩ (k_X9_of l hT a0 u1 u2 h0 H.size _ _ _ hc_29) (cwV 2 hts (rc_gV tw_7_163 tw_7_165 tw_p_20 tw_1_14 tw_7_166) rfl rfl rfl (by decide +kernel) ⟨Nat.le_of_ble_eq_true rfl, Nat.le_of_ble_eq_true rfl⟩) (rc_preV hT hW hK hE hS h0 (by decide) rfl (q := (RX9, TX9, 22)) rfl [.int u1, .int u2]) rfl rfl hl.1 rfl (lv_room (Nat.le_of_ble_eq_true rfl)) dX9_barrelOf_71 ⟨Nat.le_of_ble_eq_true rfl, Nat.le_of_ble_eq_true rfl⟩) (fun H locs hW hS => ?_)
                have hm := hm0
                clear hm0 hc_29
                exact rc_eiret hx hb hr hlocks hW hS (Nat.le_of_ble_eq_true rfl) (Nat.le_of_ble_eq_true rfl) hm dX9_barrelOf_74
              · replace hm := rc_f hm c_28
                by_cases c_30 : u2 = (5 : Int32)
                · replace hm := rc_t hm c_30
                  refine lv_tableIn (off := 48) (tgt := 75) hx hb dX9_barrelOf_27 (by rw [c_30]; decide) (by rw [c_30]; decide) (by rw [c_30]; decide) (by decide) ?_
                  refine lv_aload_n hx hb dX9_barrelOf_75 rfl (lv_at hl 0 rfl) ?_
                  refine lv_iload_n hx hb dX9_barrelOf_76 rfl (lv_at hl 1 rfl) ?_
                  obtain ⟨w_31, σ_31, hc_31, hm0⟩ := rc_bd_inv hm
                  clear hm
                  refine rc_ci hS (va_runV (As := [.int u1]) (rest := []) ⟨hx, hb, hml, hown, hts⟩ (k_X9_ageOf l hT a0 u1 h0 H.size _ _ _ hc_31) (cwV 1 hts (rc_gV tw_8_46 tw_8_48 tw_p_43 tw_1_14 tw_8_49) rfl rfl rfl (by decide +kernel) ⟨Nat.le_of_ble_eq_true rfl, Nat.le_of_ble_eq_true rfl⟩) (rc_preV hT hW hK hE hS h0 (by decide) rfl (q := (RX9, TX9, 22)) rfl [.int u1]) rfl rfl hl.1 rfl (lv_room (Nat.le_of_ble_eq_true rfl)) dX9_barrelOf_77 ⟨Nat.le_of_ble_eq_true rfl, Nat.le_of_ble_eq_true rfl⟩) (fun H locs hW hS => ?_)
                  have hm := hm0
                  clear hm0 hc_31
                  exact rc_eiret hx hb hr hlocks hW hS (Nat.le_of_ble_eq_true rfl) (Nat.le_of_ble_eq_true rfl) hm dX9_barrelOf_80
                · replace hm := rc_f hm c_30
                  by_cases c_32 : u2 = (6 : Int32)
                  · replace hm := rc_t hm c_32
                    refine lv_tableIn (off := 54) (tgt := 81) hx hb dX9_barrelOf_27 (by rw [c_32]; decide) (by rw [c_32]; decide) (by rw [c_32]; decide) (by decide) ?_
                    refine lv_aload_n hx hb dX9_barrelOf_81 rfl (lv_at hl 0 rfl) ?_
                    refine lv_iload_n hx hb dX9_barrelOf_82 rfl (lv_at hl 1 rfl) ?_
                    obtain ⟨w_33, σ_33, hc_33, hm0⟩ := rc_bd_inv hm
                    clear hm
                    refine rc_ci hS (va_runV (As := [.int u1]) (rest := []) ⟨hx, hb, hml, hown, hts⟩ (k_X9_part l hT a0 u1 h0 H.size _ _ _ hc_33) (cwV 1 hts (rc_gV tw_7_227 tw_7_229 tw_p_33 tw_1_14 tw_7_230) rfl rfl rfl (by decide +kernel) ⟨Nat.le_of_ble_eq_true rfl, Nat.le_of_ble_eq_true rfl⟩) (rc_preV hT hW hK hE hS h0 (by decide) rfl (q := (RX9, TX9, 22)) rfl [.int u1]) rfl rfl hl.1 rfl (lv_room (Nat.le_of_ble_eq_true rfl)) dX9_barrelOf_83 ⟨Nat.le_of_ble_eq_true rfl, Nat.le_of_ble_eq_true rfl⟩) (fun H locs hW hS => ?_)
                    have hm := hm0
                    clear hm0 hc_33
                    exact rc_eiret hx hb hr hlocks hW hS (Nat.le_of_ble_eq_true rfl) (Nat.le_of_ble_eq_true rfl) hm dX9_barrelOf_86
                  · replace hm := rc_f hm c_32
                    refine rc_tblD (tgt := 87) hx hb dX9_barrelOf_27 [0, 1, 2, 3, 4, 5, 6] (by decide +kernel) (by decide +kernel) (rc_nk c_20 (by decide) (rc_nk c_22 (by decide) (rc_nk c_24 (by decide) (rc_nk c_26 (by decide) (rc_nk c_28 (by decide) (rc_nk c_30 (by decide) (rc_nk c_32 (by decide) rc_nk0))))))) (by decide) ?_
                    refine lv_aload_n hx hb dX9_barrelOf_87 rfl (lv_at hl 0 rfl) ?_
                    refine lv_iconst (v := 2) hx hb dX9_barrelOf_88 (by decide) ?_
                    obtain ⟨w_34, σ_34, hc_34, hm0⟩ := rc_bd_inv hm
                    clear hm
                    refine rc_ci hS (va_runV (As := [.int (2 : Int32)]) (rest := []) ⟨hx, hb, hml, hown, hts⟩ (k_X9_fails l hT a0 (2 : Int32) h0 H.size _ _ _ hc_34) (cwV 1 hts (rc_gV tw_7_187 tw_7_189 tw_p_26 tw_1_14 tw_7_190) rfl rfl rfl (by decide +kernel) ⟨Nat.le_of_ble_eq_true rfl, Nat.le_of_ble_eq_true rfl⟩) (rc_preV hT hW hK hE hS h0 (by decide) rfl (q := (RX9, TX9, 22)) rfl [.int (2 : Int32)]) rfl rfl hl.1 rfl (lv_room (Nat.le_of_ble_eq_true rfl)) dX9_barrelOf_89 ⟨Nat.le_of_ble_eq_true rfl, Nat.le_of_ble_eq_true rfl⟩) (fun H locs hW hS => ?_)
                    have hm := hm0
                    clear hm0 hc_34
                    exact rc_eiret hx hb hr hlocks hW hS (Nat.le_of_ble_eq_true rfl) (Nat.le_of_ble_eq_true rfl) hm dX9_barrelOf_92
    · replace hm := rc_f hm c_35
      refine lv_iconst (v := 0) hx hb dX9_barrelOf_24 (by decide) ?_
      exact rc_eiret hx hb hr hlocks hW hS (Nat.le_of_ble_eq_true rfl) (Nat.le_of_ble_eq_true rfl) hm dX9_barrelOf_25
set_option maxHeartbeats 4000000 in
set_option maxRecDepth 100000 in
theorem k_X9_filled (l : Launch) {Y : rc_Y} {sh : Nat → Nat} {rf : rc_F} (hT : rc_T Y sh rf) (a0 : Nat) (u1 : Int32) (h0 : sh a0 = 10) (sz : Nat) (σ σ' : rc_S) (r : Int32) (hm : f_X9_filled rf a0 u1 σ = some (r, σ')) : Met l yX9_filled (Cond.code yX9_filled cX9_filled 2 (some .int) :: rc_big) ({ frames := 2, cells := 0, slots := 0, locals := 43 } : Room) (rc_P Y sh rf σ sz [.ref a0, .int u1]) (va_Qi (fun (r' : Int32) (_ : Unit) => r' = r) (fun _ t => rc_W Y sh rf σ' t.heap) (rc_A sh sz)) 0 0 (rc_A sh sz) := by
  refine Met.ofW (cc := cX9_filled) (maxL := 2) (ret := (some .int)) (by decide +kernel) rfl ?_
  intro p e s m args below meth c s₁ B hml hv
  obtain ⟨rfl, hsz, hW, hK, hE⟩ := hv
  have hx := B.exec
  have hb := B.bytes
  have hr := B.returns
  have hts : ∀ w ∈ rc_big, w.before _ s = true := fun w h => atoms_spec (ws := Cond.code yX9_filled cX9_filled 2 (some .int) :: rc_big) B.pre w (List.mem_cons_of_mem _ h)
  have hown : s.vm.findClass RX9 = some m.cls := findClass_of_methodNamed B.named
  have hlocks := B.notSynchronized
  clear B
  subst hsz
  have hS : va_S (rc_A sh s.heap.size) s.heap s.heap [] := va_S.rf
  have hl := lv_entry ([.ref a0, .int u1]) (n := 2) (Nat.le_of_ble_eq_true rfl)
  rw [lg_entry_eq]
  generalize (lg_sl ([.ref a0, .int u1]) ++ List.replicate (2 - (lg_sl ([.ref a0, .int u1])).length) Slot.unset).toArray = ls at hl ⊢
  have hl : lv_has ls 2 [(0, .ref a0), (1, .int u1)] := hl
  unfold f_X9_filled at hm
  refine lv_aload_n hx hb dX9_filled_0 rfl (lv_at hl 0 rfl) ?_
  refine lv_iload_n hx hb dX9_filled_1 rfl (lv_at hl 1 rfl) ?_
  obtain ⟨w_1, σ_1, hc_1, hm0⟩ := rc_bd_inv hm
  clear hm
  refine rc_ci hS (va_runV (As := [.int u1]) (rest := []) ⟨hx, hb, hml, hown, hts⟩ (k_X9_isBarrel l hT a0 u1 h0 s.heap.size _ _ _ hc_1) (cwV 1 hts (rc_gV tw_7_211 tw_7_213 tw_p_30 tw_1_14 tw_7_214) rfl rfl rfl (by decide +kernel) ⟨Nat.le_of_ble_eq_true rfl, Nat.le_of_ble_eq_true rfl⟩) (rc_preV hT hW hK hE hS h0 (by decide) rfl (q := (RX9, TX9, 22)) rfl [.int u1]) rfl rfl hl.1 rfl (lv_room (Nat.le_of_ble_eq_true rfl)) dX9_filled_2 ⟨Nat.le_of_ble_eq_true rfl, Nat.le_of_ble_eq_true rfl⟩) (fun H locs hW hS => ?_)
  have hm := hm0
  clear hm0 hc_1
  refine lv_if_ne (tgt := 12) hx hb dX9_filled_5 (by decide) (fun c_4 => ?_) (fun c_4 => ?_)
  · replace hm := rc_f hm c_4
    refine lv_aload_n hx hb dX9_filled_12 rfl (lv_at hl 0 rfl) ?_
    refine lv_iload_n hx hb dX9_filled_13 rfl (lv_at hl 1 rfl) ?_
    refine lv_iconst (v := 1) hx hb dX9_filled_14 (by decide) ?_
    obtain ⟨w_2, σ_2, hc_2, hm0⟩ := rc_bd_inv hm
    clear hm
    refine rc_ci hS (va_runV (As := [.int u1, .int (1 : Int32)]) (rest := []) ⟨hx, hb, hml, hown, hts⟩ (k_X9_of l hT a0 u1 (1 : Int32) h0 H.size _ _ _ hc_2) (cwV 2 hts (rc_gV tw_7_163 tw_7_165 tw_p_20 tw_1_14 tw_7_166) rfl rfl rfl (by decide +kernel) ⟨Nat.le_of_ble_eq_true rfl, Nat.le_of_ble_eq_true rfl⟩) (rc_preV hT hW hK hE hS h0 (by decide) rfl (q := (RX9, TX9, 22)) rfl [.int u1, .int (1 : Int32)]) rfl rfl hl.1 rfl (lv_room (Nat.le_of_ble_eq_true rfl)) dX9_filled_15 ⟨Nat.le_of_ble_eq_true rfl, Nat.le_of_ble_eq_true rfl⟩) (fun H locs hW hS => ?_)
    have hm := hm0
    clear hm0 hc_2
    refine lv_if_ne (tgt := 25) hx hb dX9_filled_18 (by decide) (fun c_3 => ?_) (fun c_3 => ?_)
    · replace hm := rc_f hm c_3
      refine lv_iconst (v := 0) hx hb dX9_filled_25 (by decide) ?_
      exact rc_eiret hx hb hr hlocks hW hS (Nat.le_of_ble_eq_true rfl) (Nat.le_of_ble_eq_true rfl) hm dX9_filled_26
    · replace hm := rc_t hm c_3
      refine lv_iconst (v := 2) hx hb dX9_filled_21 (by decide) ?_
      refine lv_goto (tgt := 26) hx hb dX9_filled_22 (by decide) ?_
      exact rc_eiret hx hb hr hlocks hW hS (Nat.le_of_ble_eq_true rfl) (Nat.le_of_ble_eq_true rfl) hm dX9_filled_26
  · replace hm := rc_t hm c_4
    refine lv_iconst (v := 1) hx hb dX9_filled_8 (by decide) ?_
    refine lv_goto (tgt := 26) hx hb dX9_filled_9 (by decide) ?_
    exact rc_eiret hx hb hr hlocks hW hS (Nat.le_of_ble_eq_true rfl) (Nat.le_of_ble_eq_true rfl) hm dX9_filled_26
set_option maxHeartbeats 4000000 in
set_option maxRecDepth 100000 in
theorem k_X9_note (l : Launch) {Y : rc_Y} {sh : Nat → Nat} {rf : rc_F} (hT : rc_T Y sh rf) (a0 : Nat) (u1 : Int32) (h0 : sh a0 = 10) (sz : Nat) (σ σ' : rc_S) (r : Int32) (hm : f_X9_note rf a0 u1 σ = some (r, σ')) : Met l yX9_note (Cond.code yX9_note cX9_note 2 (some .int) :: rc_big) ({ frames := 3, cells := 0, slots := 0, locals := 66 } : Room) (rc_P Y sh rf σ sz [.ref a0, .int u1]) (va_Qi (fun (r' : Int32) (_ : Unit) => r' = r) (fun _ t => rc_W Y sh rf σ' t.heap) (rc_A sh sz)) 0 0 (rc_A sh sz) := by
  refine Met.ofW (cc := cX9_note) (maxL := 2) (ret := (some .int)) (by decide +kernel) rfl ?_
  intro p e s m args below meth c s₁ B hml hv
  obtain ⟨rfl, hsz, hW, hK, hE⟩ := hv
  have hx := B.exec
  have hb := B.bytes
  have hr := B.returns
  have hts : ∀ w ∈ rc_big, w.before _ s = true := fun w h => atoms_spec (ws := Cond.code yX9_note cX9_note 2 (some .int) :: rc_big) B.pre w (List.mem_cons_of_mem _ h)
  have hown : s.vm.findClass RX9 = some m.cls := findClass_of_methodNamed B.named
  have hlocks := B.notSynchronized
  clear B
  subst hsz
  have hS : va_S (rc_A sh s.heap.size) s.heap s.heap [] := va_S.rf
  have hl := lv_entry ([.ref a0, .int u1]) (n := 2) (Nat.le_of_ble_eq_true rfl)
  rw [lg_entry_eq]
  generalize (lg_sl ([.ref a0, .int u1]) ++ List.replicate (2 - (lg_sl ([.ref a0, .int u1])).length) Slot.unset).toArray = ls at hl ⊢
  have hl : lv_has ls 2 [(0, .ref a0), (1, .int u1)] := hl
  unfold f_X9_note at hm
  refine lv_aload_n hx hb dX9_note_0 rfl (lv_at hl 0 rfl) ?_
  refine lv_aload_n hx hb dX9_note_1 rfl (lv_at hl 0 rfl) ?_
  refine lv_iload_n hx hb dX9_note_2 rfl (lv_at hl 1 rfl) ?_
  obtain ⟨w_1, σ_1, hc_1, hm0⟩ := rc_bd_inv hm
  clear hm
  refine rc_ci hS (va_runV (As := [.int u1]) (rest := [.ref a0]) ⟨hx, hb, hml, hown, hts⟩ (k_X9_filled l hT a0 u1 h0 s.heap.size _ _ _ hc_1) (cwV 1 hts (rc_gV tw_8_82 tw_8_84 tw_p_47 tw_1_14 tw_8_85) rfl rfl rfl (by decide +kernel) ⟨Nat.le_of_ble_eq_true rfl, Nat.le_of_ble_eq_true rfl⟩) (rc_preV hT hW hK hE hS h0 (by decide) rfl (q := (RX9, TX9, 22)) rfl [.int u1]) rfl rfl hl.1 rfl (lv_room (Nat.le_of_ble_eq_true rfl)) dX9_note_3 ⟨Nat.le_of_ble_eq_true rfl, Nat.le_of_ble_eq_true rfl⟩) (fun H locs hW hS => ?_)
  have hm := hm0
  clear hm0 hc_1
  refine rp_10_0 hx hb hts hown hK hW hS h0 tw_7_69 dX9_note_6 (fun σ_2 H locs eσ hW hS => ?_)
  replace hm := rc_lt_at hm eσ
  clear eσ
  refine lv_aload_n hx hb dX9_note_9 rfl (lv_at hl 0 rfl) ?_
  refine rg_10_0 hx hb hts hown hK hW h0 tw_7_69 dX9_note_10 ?_
  refine lv_if_le (tgt := 20) hx hb dX9_note_13 (by decide) (fun c_4 => ?_) (fun c_4 => ?_)
  · replace hm := rc_t hm c_4
    refine lv_aload_n hx hb dX9_note_20 rfl (lv_at hl 0 rfl) ?_
    refine lv_iload_n hx hb dX9_note_21 rfl (lv_at hl 1 rfl) ?_
    refine lv_iconst (v := 0) hx hb dX9_note_22 (by decide) ?_
    obtain ⟨w_3, σ_3, hc_3, hm0⟩ := rc_bd_inv hm
    clear hm
    refine rc_ci hS (va_runV (As := [.int u1, .int (0 : Int32)]) (rest := []) ⟨hx, hb, hml, hown, hts⟩ (k_X9_noteOf l hT a0 u1 (0 : Int32) h0 H.size _ _ _ hc_3) (cwV 2 hts (rc_gV tw_8_42 tw_8_44 tw_p_42 tw_1_14 tw_8_45) rfl rfl rfl (by decide +kernel) ⟨Nat.le_of_ble_eq_true rfl, Nat.le_of_ble_eq_true rfl⟩) (rc_preV hT hW hK hE hS h0 (by decide) rfl (q := (RX9, TX9, 22)) rfl [.int u1, .int (0 : Int32)]) rfl rfl hl.1 rfl (lv_room (Nat.le_of_ble_eq_true rfl)) dX9_note_23 ⟨Nat.le_of_ble_eq_true rfl, Nat.le_of_ble_eq_true rfl⟩) (fun H locs hW hS => ?_)
    have hm := hm0
    clear hm0 hc_3
    exact rc_eiret hx hb hr hlocks hW hS (Nat.le_of_ble_eq_true rfl) (Nat.le_of_ble_eq_true rfl) hm dX9_note_26
  · replace hm := rc_f hm c_4
    refine lv_iconst (v := 0) hx hb dX9_note_16 (by decide) ?_
    refine lv_goto (tgt := 26) hx hb dX9_note_17 (by decide) ?_
    exact rc_eiret hx hb hr hlocks hW hS (Nat.le_of_ble_eq_true rfl) (Nat.le_of_ble_eq_true rfl) hm dX9_note_26
set_option maxHeartbeats 4000000 in
set_option maxRecDepth 100000 in
theorem k_X9_noteAgain (l : Launch) {Y : rc_Y} {sh : Nat → Nat} {rf : rc_F} (hT : rc_T Y sh rf) (a0 : Nat) (u1 : Int32) (h0 : sh a0 = 10) (sz : Nat) (σ σ' : rc_S) (r : Int32) (hm : f_X9_noteAgain rf a0 u1 σ = some (r, σ')) : Met l yX9_noteAgain (Cond.code yX9_noteAgain cX9_noteAgain 2 (some .int) :: rc_big) ({ frames := 4, cells := 0, slots := 0, locals := 87 } : Room) (rc_P Y sh rf σ sz [.ref a0, .int u1]) (va_Qi (fun (r' : Int32) (_ : Unit) => r' = r) (fun _ t => rc_W Y sh rf σ' t.heap) (rc_A sh sz)) 0 0 (rc_A sh sz) := by
  refine Met.ofW (cc := cX9_noteAgain) (maxL := 2) (ret := (some .int)) (by decide +kernel) rfl ?_
  intro p e s m args below meth c s₁ B hml hv
  obtain ⟨rfl, hsz, hW, hK, hE⟩ := hv
  have hx := B.exec
  have hb := B.bytes
  have hr := B.returns
  have hts : ∀ w ∈ rc_big, w.before _ s = true := fun w h => atoms_spec (ws := Cond.code yX9_noteAgain cX9_noteAgain 2 (some .int) :: rc_big) B.pre w (List.mem_cons_of_mem _ h)
  have hown : s.vm.findClass RX9 = some m.cls := findClass_of_methodNamed B.named
  have hlocks := B.notSynchronized
  clear B
  subst hsz
  have hS : va_S (rc_A sh s.heap.size) s.heap s.heap [] := va_S.rf
  have hl := lv_entry ([.ref a0, .int u1]) (n := 2) (Nat.le_of_ble_eq_true rfl)
  rw [lg_entry_eq]
  generalize (lg_sl ([.ref a0, .int u1]) ++ List.replicate (2 - (lg_sl ([.ref a0, .int u1])).length) Slot.unset).toArray = ls at hl ⊢
  have hl : lv_has ls 2 [(0, .ref a0), (1, .int u1)] := hl
  unfold f_X9_noteAgain at hm
  refine lv_aload_n hx hb dX9_noteAgain_0 rfl (lv_at hl 0 rfl) ?_
  refine lv_iload_n hx hb dX9_noteAgain_1 rfl (lv_at hl 1 rfl) ?_
  obtain ⟨w_1, σ_1, hc_1, hm0⟩ := rc_bd_inv hm
  clear hm
  refine rc_ci hS (va_runV (As := [.int u1]) (rest := []) ⟨hx, hb, hml, hown, hts⟩ (k_X9_note l hT a0 u1 h0 s.heap.size _ _ _ hc_1) (cwV 1 hts (rc_gV tw_8_90 tw_8_79 tw_8_80 tw_1_14 tw_8_81) rfl rfl rfl (by decide +kernel) ⟨Nat.le_of_ble_eq_true rfl, Nat.le_of_ble_eq_true rfl⟩) (rc_preV hT hW hK hE hS h0 (by decide) rfl (q := (RX9, TX9, 22)) rfl [.int u1]) rfl rfl hl.1 rfl (lv_room (Nat.le_of_ble_eq_true rfl)) dX9_noteAgain_2 ⟨Nat.le_of_ble_eq_true rfl, Nat.le_of_ble_eq_true rfl⟩) (fun H locs hW hS => ?_)
  have hm := hm0
  clear hm0 hc_1
  exact rc_eiret hx hb hr hlocks hW hS (Nat.le_of_ble_eq_true rfl) (Nat.le_of_ble_eq_true rfl) hm dX9_noteAgain_5
set_option maxHeartbeats 4000000 in
set_option maxRecDepth 100000 in
theorem k_X9_noteIn (l : Launch) {Y : rc_Y} {sh : Nat → Nat} {rf : rc_F} (hT : rc_T Y sh rf) (a0 : Nat) (u1 : Int32) (u2 : Int32) (h0 : sh a0 = 10) (sz : Nat) (σ σ' : rc_S) (r : Int32) (hm : f_X9_noteIn rf a0 u1 u2 σ = some (r, σ')) : Met l yX9_noteIn (Cond.code yX9_noteIn cX9_noteIn 3 (some .int) :: rc_big) ({ frames := 3, cells := 0, slots := 0, locals := 66 } : Room) (rc_P Y sh rf σ sz [.ref a0, .int u1, .int u2]) (va_Qi (fun (r' : Int32) (_ : Unit) => r' = r) (fun _ t => rc_W Y sh rf σ' t.heap) (rc_A sh sz)) 0 0 (rc_A sh sz) := by
  refine Met.ofW (cc := cX9_noteIn) (maxL := 3) (ret := (some .int)) (by decide +kernel) rfl ?_
  intro p e s m args below meth c s₁ B hml hv
  obtain ⟨rfl, hsz, hW, hK, hE⟩ := hv
  have hx := B.exec
  have hb := B.bytes
  have hr := B.returns
  have hts : ∀ w ∈ rc_big, w.before _ s = true := fun w h => atoms_spec (ws := Cond.code yX9_noteIn cX9_noteIn 3 (some .int) :: rc_big) B.pre w (List.mem_cons_of_mem _ h)
  have hown : s.vm.findClass RX9 = some m.cls := findClass_of_methodNamed B.named
  have hlocks := B.notSynchronized
  clear B
  subst hsz
  have hS : va_S (rc_A sh s.heap.size) s.heap s.heap [] := va_S.rf
  have hl := lv_entry ([.ref a0, .int u1, .int u2]) (n := 3) (Nat.le_of_ble_eq_true rfl)
  rw [lg_entry_eq]
  generalize (lg_sl ([.ref a0, .int u1, .int u2]) ++ List.replicate (3 - (lg_sl ([.ref a0, .int u1, .int u2])).length) Slot.unset).toArray = ls at hl ⊢
  have hl : lv_has ls 3 [(0, .ref a0), (1, .int u1), (2, .int u2)] := hl
  unfold f_X9_noteIn at hm
  refine lv_aload_n hx hb dX9_noteIn_0 rfl (lv_at hl 0 rfl) ?_
  refine lv_aload_n hx hb dX9_noteIn_1 rfl (lv_at hl 0 rfl) ?_
  refine lv_iload_n hx hb dX9_noteIn_2 rfl (lv_at hl 1 rfl) ?_
  obtain ⟨w_1, σ_1, hc_1, hm0⟩ := rc_bd_inv hm
  clear hm
  refine rc_ci hS (va_runV (As := [.int u1]) (rest := [.ref a0]) ⟨hx, hb, hml, hown, hts⟩ (k_X9_filled l hT a0 u1 h0 s.heap.size _ _ _ hc_1) (cwV 1 hts (rc_gV tw_8_82 tw_8_84 tw_p_47 tw_1_14 tw_8_85) rfl rfl rfl (by decide +kernel) ⟨Nat.le_of_ble_eq_true rfl, Nat.le_of_ble_eq_true rfl⟩) (rc_preV hT hW hK hE hS h0 (by decide) rfl (q := (RX9, TX9, 22)) rfl [.int u1]) rfl rfl hl.1 rfl (lv_room (Nat.le_of_ble_eq_true rfl)) dX9_noteIn_3 ⟨Nat.le_of_ble_eq_true rfl, Nat.le_of_ble_eq_true rfl⟩) (fun H locs hW hS => ?_)
  have hm := hm0
  clear hm0 hc_1
  refine rp_10_0 hx hb hts hown hK hW hS h0 tw_7_69 dX9_noteIn_6 (fun σ_2 H locs eσ hW hS => ?_)
  replace hm := rc_lt_at hm eσ
  clear eσ
  refine lv_aload_n hx hb dX9_noteIn_9 rfl (lv_at hl 0 rfl) ?_
  refine lv_aload_n hx hb dX9_noteIn_10 rfl (lv_at hl 0 rfl) ?_
  refine rg_10_0 hx hb hts hown hK hW h0 tw_7_69 dX9_noteIn_11 ?_
  refine lv_if_le (tgt := 24) hx hb dX9_noteIn_14 (by decide) (fun c_14 => ?_) (fun c_14 => ?_)
  · replace hm := rc_t hm c_14
    refine lv_iload_n hx hb dX9_noteIn_24 rfl (lv_at hl 2 rfl) ?_
    refine lv_iconst (v := 0) hx hb dX9_noteIn_25 (by decide) ?_
    refine lv_bipush (v := 20) hx hb dX9_noteIn_26 (by decide) ?_
    obtain ⟨w_3, σ_3, hc_3, hm0⟩ := rc_bd_inv hm
    clear hm
    refine rc_ci hS (va_runS (As := [.int u2, .int (0 : Int32), .int (20 : Int32)]) (rest := [.ref a0]) ⟨hx, hb, hml, hown, hts⟩ (k_X9_in l hT u2 (0 : Int32) (20 : Int32)  H.size _ _ _ hc_3) (va_cwS 3 hts (rc_gS tw_7_152 tw_7_153 tw_1_14 tw_7_154) rfl rfl rfl (by decide +kernel) ⟨Nat.le_of_ble_eq_true rfl, Nat.le_of_ble_eq_true rfl⟩) (rc_preS hT hW hK hE hS [.int u2, .int (0 : Int32), .int (20 : Int32)]) rfl rfl hl.1 rfl (lv_room (Nat.le_of_ble_eq_true rfl)) dX9_noteIn_28 ⟨Nat.le_of_ble_eq_true rfl, Nat.le_of_ble_eq_true rfl⟩) (fun H locs hW hS => ?_)
    have hm := hm0
    clear hm0 hc_3
    refine lv_if_eq (tgt := 38) hx hb dX9_noteIn_31 (by decide) (fun c_10 => ?_) (fun c_10 => ?_)
    · replace hm := rc_t hm c_10
      refine lv_iconst (v := 3) hx hb dX9_noteIn_38 (by decide) ?_
      refine rp_10_0 hx hb hts hown hK hW hS h0 tw_7_69 dX9_noteIn_39 (fun σ_4 H locs eσ hW hS => ?_)
      replace hm := rc_lt_at hm eσ
      clear eσ
      refine lv_aload_n hx hb dX9_noteIn_42 rfl (lv_at hl 0 rfl) ?_
      refine rg_10_0 hx hb hts hown hK hW h0 tw_7_69 dX9_noteIn_43 ?_
      refine lv_if_le (tgt := 53) hx hb dX9_noteIn_46 (by decide) (fun c_6 => ?_) (fun c_6 => ?_)
      · replace hm := rc_t hm c_6
        refine lv_aload_n hx hb dX9_noteIn_53 rfl (lv_at hl 0 rfl) ?_
        refine lv_iload_n hx hb dX9_noteIn_54 rfl (lv_at hl 1 rfl) ?_
        refine lv_iload_n hx hb dX9_noteIn_55 rfl (lv_at hl 2 rfl) ?_
        obtain ⟨w_5, σ_5, hc_5, hm0⟩ := rc_bd_inv hm
        clear hm
        refine rc_ci hS (va_runV (As := [.int u1, .int u2]) (rest := []) ⟨hx, hb, hml, hown, hts⟩ (k_X9_noteOf l hT a0 u1 u2 h0 H.size _ _ _ hc_5) (cwV 2 hts (rc_gV tw_8_42 tw_8_44 tw_p_42 tw_1_14 tw_8_45) rfl rfl rfl (by decide +kernel) ⟨Nat.le_of_ble_eq_true rfl, Nat.le_of_ble_eq_true rfl⟩) (rc_preV hT hW hK hE hS h0 (by decide) rfl (q := (RX9, TX9, 22)) rfl [.int u1, .int u2]) rfl rfl hl.1 rfl (lv_room (Nat.le_of_ble_eq_true rfl)) dX9_noteIn_56 ⟨Nat.le_of_ble_eq_true rfl, Nat.le_of_ble_eq_true rfl⟩) (fun H locs hW hS => ?_)
        have hm := hm0
        clear hm0 hc_5
        exact rc_eiret hx hb hr hlocks hW hS (Nat.le_of_ble_eq_true rfl) (Nat.le_of_ble_eq_true rfl) hm dX9_noteIn_59
      · replace hm := rc_f hm c_6
        refine lv_iconst (v := 0) hx hb dX9_noteIn_49 (by decide) ?_
        refine lv_goto (tgt := 59) hx hb dX9_noteIn_50 (by decide) ?_
        exact rc_eiret hx hb hr hlocks hW hS (Nat.le_of_ble_eq_true rfl) (Nat.le_of_ble_eq_true rfl) hm dX9_noteIn_59
    · replace hm := rc_f hm c_10
      refine lv_iconst (v := 0) hx hb dX9_noteIn_34 (by decide) ?_
      refine lv_goto (tgt := 39) hx hb dX9_noteIn_35 (by decide) ?_
      refine rp_10_0 hx hb hts hown hK hW hS h0 tw_7_69 dX9_noteIn_39 (fun σ_7 H locs eσ hW hS => ?_)
      replace hm := rc_lt_at hm eσ
      clear eσ
      refine lv_aload_n hx hb dX9_noteIn_42 rfl (lv_at hl 0 rfl) ?_
      refine rg_10_0 hx hb hts hown hK hW h0 tw_7_69 dX9_noteIn_43 ?_
      refine lv_if_le (tgt := 53) hx hb dX9_noteIn_46 (by decide) (fun c_9 => ?_) (fun c_9 => ?_)
      · replace hm := rc_t hm c_9
        refine lv_aload_n hx hb dX9_noteIn_53 rfl (lv_at hl 0 rfl) ?_
        refine lv_iload_n hx hb dX9_noteIn_54 rfl (lv_at hl 1 rfl) ?_
        refine lv_iload_n hx hb dX9_noteIn_55 rfl (lv_at hl 2 rfl) ?_
        obtain ⟨w_8, σ_8, hc_8, hm0⟩ := rc_bd_inv hm
        clear hm
        refine rc_ci hS (va_runV (As := [.int u1, .int u2]) (rest := []) ⟨hx, hb, hml, hown, hts⟩ (k_X9_noteOf l hT a0 u1 u2 h0 H.size _ _ _ hc_8) (cwV 2 hts (rc_gV tw_8_42 tw_8_44 tw_p_42 tw_1_14 tw_8_45) rfl rfl rfl (by decide +kernel) ⟨Nat.le_of_ble_eq_true rfl, Nat.le_of_ble_eq_true rfl⟩) (rc_preV hT hW hK hE hS h0 (by decide) rfl (q := (RX9, TX9, 22)) rfl [.int u1, .int u2]) rfl rfl hl.1 rfl (lv_room (Nat.le_of_ble_eq_true rfl)) dX9_noteIn_56 ⟨Nat.le_of_ble_eq_true rfl, Nat.le_of_ble_eq_true rfl⟩) (fun H locs hW hS => ?_)
        have hm := hm0
        clear hm0 hc_8
        exact rc_eiret hx hb hr hlocks hW hS (Nat.le_of_ble_eq_true rfl) (Nat.le_of_ble_eq_true rfl) hm dX9_noteIn_59
      · replace hm := rc_f hm c_9
        refine lv_iconst (v := 0) hx hb dX9_noteIn_49 (by decide) ?_
        refine lv_goto (tgt := 59) hx hb dX9_noteIn_50 (by decide) ?_
        exact rc_eiret hx hb hr hlocks hW hS (Nat.le_of_ble_eq_true rfl) (Nat.le_of_ble_eq_true rfl) hm dX9_noteIn_59
  · replace hm := rc_f hm c_14
    refine lv_aload_n hx hb dX9_noteIn_17 rfl (lv_at hl 0 rfl) ?_
    refine rg_10_0 hx hb hts hown hK hW h0 tw_7_69 dX9_noteIn_18 ?_
    refine lv_goto (tgt := 39) hx hb dX9_noteIn_21 (by decide) ?_
    refine rp_10_0 hx hb hts hown hK hW hS h0 tw_7_69 dX9_noteIn_39 (fun σ_11 H locs eσ hW hS => ?_)
    replace hm := rc_lt_at hm eσ
    clear eσ
    refine lv_aload_n hx hb dX9_noteIn_42 rfl (lv_at hl 0 rfl) ?_
    refine rg_10_0 hx hb hts hown hK hW h0 tw_7_69 dX9_noteIn_43 ?_
    refine lv_if_le (tgt := 53) hx hb dX9_noteIn_46 (by decide) (fun c_13 => ?_) (fun c_13 => ?_)
    · replace hm := rc_t hm c_13
      refine lv_aload_n hx hb dX9_noteIn_53 rfl (lv_at hl 0 rfl) ?_
      refine lv_iload_n hx hb dX9_noteIn_54 rfl (lv_at hl 1 rfl) ?_
      refine lv_iload_n hx hb dX9_noteIn_55 rfl (lv_at hl 2 rfl) ?_
      obtain ⟨w_12, σ_12, hc_12, hm0⟩ := rc_bd_inv hm
      clear hm
      refine rc_ci hS (va_runV (As := [.int u1, .int u2]) (rest := []) ⟨hx, hb, hml, hown, hts⟩ (k_X9_noteOf l hT a0 u1 u2 h0 H.size _ _ _ hc_12) (cwV 2 hts (rc_gV tw_8_42 tw_8_44 tw_p_42 tw_1_14 tw_8_45) rfl rfl rfl (by decide +kernel) ⟨Nat.le_of_ble_eq_true rfl, Nat.le_of_ble_eq_true rfl⟩) (rc_preV hT hW hK hE hS h0 (by decide) rfl (q := (RX9, TX9, 22)) rfl [.int u1, .int u2]) rfl rfl hl.1 rfl (lv_room (Nat.le_of_ble_eq_true rfl)) dX9_noteIn_56 ⟨Nat.le_of_ble_eq_true rfl, Nat.le_of_ble_eq_true rfl⟩) (fun H locs hW hS => ?_)
      have hm := hm0
      clear hm0 hc_12
      exact rc_eiret hx hb hr hlocks hW hS (Nat.le_of_ble_eq_true rfl) (Nat.le_of_ble_eq_true rfl) hm dX9_noteIn_59
    · replace hm := rc_f hm c_13
      refine lv_iconst (v := 0) hx hb dX9_noteIn_49 (by decide) ?_
      refine lv_goto (tgt := 59) hx hb dX9_noteIn_50 (by decide) ?_
      exact rc_eiret hx hb hr hlocks hW hS (Nat.le_of_ble_eq_true rfl) (Nat.le_of_ble_eq_true rfl) hm dX9_noteIn_59
set_option maxHeartbeats 4000000 in
set_option maxRecDepth 100000 in
theorem k_X9_notices (l : Launch) {Y : rc_Y} {sh : Nat → Nat} {rf : rc_F} (hT : rc_T Y sh rf) (a0 : Nat) (u1 : Int32) (u2 : Int32) (h0 : sh a0 = 10) (sz : Nat) (σ σ' : rc_S) (r : Int32) (hm : f_X9_notices rf a0 u1 u2 σ = some (r, σ')) : Met l yX9_notices (Cond.code yX9_notices cX9_notices 3 (some .boolean) :: rc_big) ({ frames := 2, cells := 0, slots := 0, locals := 43 } : Room) (rc_P Y sh rf σ sz [.ref a0, .int u1, .int u2]) (va_Qi (fun (r' : Int32) (_ : Unit) => r' = r) (fun _ t => rc_W Y sh rf σ' t.heap) (rc_A sh sz)) 0 0 (rc_A sh sz) := by
  refine Met.ofW (cc := cX9_notices) (maxL := 3) (ret := (some .boolean)) (by decide +kernel) rfl ?_
  intro p e s m args below meth c s₁ B hml hv
  obtain ⟨rfl, hsz, hW, hK, hE⟩ := hv
  have hx := B.exec
  have hb := B.bytes
  have hr := B.returns
  have hts : ∀ w ∈ rc_big, w.before _ s = true := fun w h => atoms_spec (ws := Cond.code yX9_notices cX9_notices 3 (some .boolean) :: rc_big) B.pre w (List.mem_cons_of_mem _ h)
  have hown : s.vm.findClass RX9 = some m.cls := findClass_of_methodNamed B.named
  have hlocks := B.notSynchronized
  clear B
  subst hsz
  have hS : va_S (rc_A sh s.heap.size) s.heap s.heap [] := va_S.rf
  have hl := lv_entry ([.ref a0, .int u1, .int u2]) (n := 3) (Nat.le_of_ble_eq_true rfl)
  rw [lg_entry_eq]
  generalize (lg_sl ([.ref a0, .int u1, .int u2]) ++ List.replicate (3 - (lg_sl ([.ref a0, .int u1, .int u2])).length) Slot.unset).toArray = ls at hl ⊢
  have hl : lv_has ls 3 [(0, .ref a0), (1, .int u1), (2, .int u2)] := hl
  unfold f_X9_notices at hm
  refine lv_aload_n hx hb dX9_notices_0 rfl (lv_at hl 0 rfl) ?_
  refine lv_aload_n hx hb dX9_notices_1 rfl (lv_at hl 0 rfl) ?_
  refine lv_iload_n hx hb dX9_notices_2 rfl (lv_at hl 1 rfl) ?_
  obtain ⟨w_1, σ_1, hc_1, hm0⟩ := rc_bd_inv hm
  clear hm
  refine rc_ci hS (va_runV (As := [.int u1]) (rest := [.ref a0]) ⟨hx, hb, hml, hown, hts⟩ (k_X9_isSommelier l hT a0 u1 h0 s.heap.size _ _ _ hc_1) (cwV 1 hts (rc_gV tw_8_22 tw_8_24 tw_p_38 tw_1_14 tw_8_25) rfl rfl rfl (by decide +kernel) ⟨Nat.le_of_ble_eq_true rfl, Nat.le_of_ble_eq_true rfl⟩) (rc_preV hT hW hK hE hS h0 (by decide) rfl (q := (RX9, TX9, 22)) rfl [.int u1]) rfl rfl hl.1 rfl (lv_room (Nat.le_of_ble_eq_true rfl)) dX9_notices_3 ⟨Nat.le_of_ble_eq_true rfl, Nat.le_of_ble_eq_true rfl⟩) (fun H locs hW hS => ?_)
  have hm := hm0
  clear hm0 hc_1
  refine lv_if_eq (tgt := 21) hx hb dX9_notices_6 (by decide) (fun c_19 => ?_) (fun c_19 => ?_)
  · replace hm := rc_t hm c_19
    refine lv_iconst (v := 1) hx hb dX9_notices_21 (by decide) ?_
    refine rp_10_0 hx hb hts hown hK hW hS h0 tw_7_69 dX9_notices_22 (fun σ_2 H locs eσ hW hS => ?_)
    replace hm := rc_lt_at hm eσ
    clear eσ
    refine lv_aload_n hx hb dX9_notices_25 rfl (lv_at hl 0 rfl) ?_
    refine rg_10_0 hx hb hts hown hK hW h0 tw_7_69 dX9_notices_26 ?_
    refine lv_if_ne (tgt := 49) hx hb dX9_notices_29 (by decide) (fun c_6 => ?_) (fun c_6 => ?_)
    · replace hm := rc_f hm c_6
      refine lv_iconst (v := 0) hx hb dX9_notices_49 (by decide) ?_
      exact rc_ezret hx hb hr hlocks hW hS (Nat.le_of_ble_eq_true rfl) (Nat.le_of_ble_eq_true rfl) rfl hm dX9_notices_50
    · replace hm := rc_t hm c_6
      refine lv_aload_n hx hb dX9_notices_32 rfl (lv_at hl 0 rfl) ?_
      refine lv_iload_n hx hb dX9_notices_33 rfl (lv_at hl 1 rfl) ?_
      refine lv_aload_n hx hb dX9_notices_34 rfl (lv_at hl 0 rfl) ?_
      refine lv_iload_n hx hb dX9_notices_35 rfl (lv_at hl 2 rfl) ?_
      obtain ⟨w_3, σ_3, hc_3, hm0⟩ := rc_bd_inv hm
      clear hm
      refine rc_ci hS (va_runV (As := [.int u2]) (rest := [.int u1, .ref a0]) ⟨hx, hb, hml, hown, hts⟩ (k_X9_part l hT a0 u2 h0 H.size _ _ _ hc_3) (cwV 1 hts (rc_gV tw_7_227 tw_7_229 tw_p_33 tw_1_14 tw_7_230) rfl rfl rfl (by decide +kernel) ⟨Nat.le_of_ble_eq_true rfl, Nat.le_of_ble_eq_true rfl⟩) (rc_preV hT hW hK hE hS h0 (by decide) rfl (q := (RX9, TX9, 22)) rfl [.int u2]) rfl rfl hl.1 rfl (lv_room (Nat.le_of_ble_eq_true rfl)) dX9_notices_36 ⟨Nat.le_of_ble_eq_true rfl, Nat.le_of_ble_eq_true rfl⟩) (fun H locs hW hS => ?_)
      have hm := hm0
      clear hm0 hc_3
      obtain ⟨w_4, σ_4, hc_4, hm0⟩ := rc_bd_inv hm
      clear hm
      refine rc_ci hS (va_runV (As := [.int u1, .int w_3]) (rest := []) ⟨hx, hb, hml, hown, hts⟩ (k_X9_notes l hT a0 u1 w_3 h0 H.size _ _ _ hc_4) (cwV 2 hts (rc_gV tw_8_38 tw_8_40 tw_p_41 tw_1_14 tw_8_41) rfl rfl rfl (by decide +kernel) ⟨Nat.le_of_ble_eq_true rfl, Nat.le_of_ble_eq_true rfl⟩) (rc_preV hT hW hK hE hS h0 (by decide) rfl (q := (RX9, TX9, 22)) rfl [.int u1, .int w_3]) rfl rfl hl.1 rfl (lv_room (Nat.le_of_ble_eq_true rfl)) dX9_notices_39 ⟨Nat.le_of_ble_eq_true rfl, Nat.le_of_ble_eq_true rfl⟩) (fun H locs hW hS => ?_)
      have hm := hm0
      clear hm0 hc_4
      refine lv_if_eq (tgt := 49) hx hb dX9_notices_42 (by decide) (fun c_5 => ?_) (fun c_5 => ?_)
      · replace hm := rc_t hm c_5
        refine lv_iconst (v := 0) hx hb dX9_notices_49 (by decide) ?_
        exact rc_ezret hx hb hr hlocks hW hS (Nat.le_of_ble_eq_true rfl) (Nat.le_of_ble_eq_true rfl) rfl hm dX9_notices_50
      · replace hm := rc_f hm c_5
        refine lv_iconst (v := 1) hx hb dX9_notices_45 (by decide) ?_
        refine lv_goto (tgt := 50) hx hb dX9_notices_46 (by decide) ?_
        exact rc_ezret hx hb hr hlocks hW hS (Nat.le_of_ble_eq_true rfl) (Nat.le_of_ble_eq_true rfl) rfl hm dX9_notices_50
  · replace hm := rc_f hm c_19
    refine lv_aload_n hx hb dX9_notices_9 rfl (lv_at hl 0 rfl) ?_
    refine lv_iload_n hx hb dX9_notices_10 rfl (lv_at hl 2 rfl) ?_
    obtain ⟨w_7, σ_7, hc_7, hm0⟩ := rc_bd_inv hm
    clear hm
    refine rc_ci hS (va_runV (As := [.int u2]) (rest := [.ref a0]) ⟨hx, hb, hml, hown, hts⟩ (k_X9_isBarrel l hT a0 u2 h0 H.size _ _ _ hc_7) (cwV 1 hts (rc_gV tw_7_211 tw_7_213 tw_p_30 tw_1_14 tw_7_214) rfl rfl rfl (by decide +kernel) ⟨Nat.le_of_ble_eq_true rfl, Nat.le_of_ble_eq_true rfl⟩) (rc_preV hT hW hK hE hS h0 (by decide) rfl (q := (RX9, TX9, 22)) rfl [.int u2]) rfl rfl hl.1 rfl (lv_room (Nat.le_of_ble_eq_true rfl)) dX9_notices_11 ⟨Nat.le_of_ble_eq_true rfl, Nat.le_of_ble_eq_true rfl⟩) (fun H locs hW hS => ?_)
    have hm := hm0
    clear hm0 hc_7
    refine lv_if_eq (tgt := 21) hx hb dX9_notices_14 (by decide) (fun c_18 => ?_) (fun c_18 => ?_)
    · replace hm := rc_t hm c_18
      refine lv_iconst (v := 1) hx hb dX9_notices_21 (by decide) ?_
      refine rp_10_0 hx hb hts hown hK hW hS h0 tw_7_69 dX9_notices_22 (fun σ_8 H locs eσ hW hS => ?_)
      replace hm := rc_lt_at hm eσ
      clear eσ
      refine lv_aload_n hx hb dX9_notices_25 rfl (lv_at hl 0 rfl) ?_
      refine rg_10_0 hx hb hts hown hK hW h0 tw_7_69 dX9_notices_26 ?_
      refine lv_if_ne (tgt := 49) hx hb dX9_notices_29 (by decide) (fun c_12 => ?_) (fun c_12 => ?_)
      · replace hm := rc_f hm c_12
        refine lv_iconst (v := 0) hx hb dX9_notices_49 (by decide) ?_
        exact rc_ezret hx hb hr hlocks hW hS (Nat.le_of_ble_eq_true rfl) (Nat.le_of_ble_eq_true rfl) rfl hm dX9_notices_50
      · replace hm := rc_t hm c_12
        refine lv_aload_n hx hb dX9_notices_32 rfl (lv_at hl 0 rfl) ?_
        refine lv_iload_n hx hb dX9_notices_33 rfl (lv_at hl 1 rfl) ?_
        refine lv_aload_n hx hb dX9_notices_34 rfl (lv_at hl 0 rfl) ?_
        refine lv_iload_n hx hb dX9_notices_35 rfl (lv_at hl 2 rfl) ?_
        obtain ⟨w_9, σ_9, hc_9, hm0⟩ := rc_bd_inv hm
        clear hm
        refine rc_ci hS (va_runV (As := [.int u2]) (rest := [.int u1, .ref a0]) ⟨hx, hb, hml, hown, hts⟩ (k_X9_part l hT a0 u2 h0 H.size _ _ _ hc_9) (cwV 1 hts (rc_gV tw_7_227 tw_7_229 tw_p_33 tw_1_14 tw_7_230) rfl rfl rfl (by decide +kernel) ⟨Nat.le_of_ble_eq_true rfl, Nat.le_of_ble_eq_true rfl⟩) (rc_preV hT hW hK hE hS h0 (by decide) rfl (q := (RX9, TX9, 22)) rfl [.int u2]) rfl rfl hl.1 rfl (lv_room (Nat.le_of_ble_eq_true rfl)) dX9_notices_36 ⟨Nat.le_of_ble_eq_true rfl, Nat.le_of_ble_eq_true rfl⟩) (fun H locs hW hS => ?_)
        have hm := hm0
        clear hm0 hc_9
        obtain ⟨w_10, σ_10, hc_10, hm0⟩ := rc_bd_inv hm
        clear hm
        refine rc_ci hS (va_runV (As := [.int u1, .int w_9]) (rest := []) ⟨hx, hb, hml, hown, hts⟩ (k_X9_notes l hT a0 u1 w_9 h0 H.size _ _ _ hc_10) (cwV 2 hts (rc_gV tw_8_38 tw_8_40 tw_p_41 tw_1_14 tw_8_41) rfl rfl rfl (by decide +kernel) ⟨Nat.le_of_ble_eq_true rfl, Nat.le_of_ble_eq_true rfl⟩) (rc_preV hT hW hK hE hS h0 (by decide) rfl (q := (RX9, TX9, 22)) rfl [.int u1, .int w_9]) rfl rfl hl.1 rfl (lv_room (Nat.le_of_ble_eq_true rfl)) dX9_notices_39 ⟨Nat.le_of_ble_eq_true rfl, Nat.le_of_ble_eq_true rfl⟩) (fun H locs hW hS => ?_)
        have hm := hm0
        clear hm0 hc_10
        refine lv_if_eq (tgt := 49) hx hb dX9_notices_42 (by decide) (fun c_11 => ?_) (fun c_11 => ?_)
        · replace hm := rc_t hm c_11
          refine lv_iconst (v := 0) hx hb dX9_notices_49 (by decide) ?_
          exact rc_ezret hx hb hr hlocks hW hS (Nat.le_of_ble_eq_true rfl) (Nat.le_of_ble_eq_true rfl) rfl hm dX9_notices_50
        · replace hm := rc_f hm c_11
          refine lv_iconst (v := 1) hx hb dX9_notices_45 (by decide) ?_
          refine lv_goto (tgt := 50) hx hb dX9_notices_46 (by decide) ?_
          exact rc_ezret hx hb hr hlocks hW hS (Nat.le_of_ble_eq_true rfl) (Nat.le_of_ble_eq_true rfl) rfl hm dX9_notices_50
    · replace hm := rc_f hm c_18
      refine lv_iconst (v := 0) hx hb dX9_notices_17 (by decide) ?_
      refine lv_goto (tgt := 22) hx hb dX9_notices_18 (by decide) ?_
      refine rp_10_0 hx hb hts hown hK hW hS h0 tw_7_69 dX9_notices_22 (fun σ_13 H locs eσ hW hS => ?_)
      replace hm := rc_lt_at hm eσ
      clear eσ
      refine lv_aload_n hx hb dX9_notices_25 rfl (lv_at hl 0 rfl) ?_
      refine rg_10_0 hx hb hts hown hK hW h0 tw_7_69 dX9_notices_26 ?_
      refine lv_if_ne (tgt := 49) hx hb dX9_notices_29 (by decide) (fun c_17 => ?_) (fun c_17 => ?_)
      · replace hm := rc_f hm c_17
        refine lv_iconst (v := 0) hx hb dX9_notices_49 (by decide) ?_
        exact rc_ezret hx hb hr hlocks hW hS (Nat.le_of_ble_eq_true rfl) (Nat.le_of_ble_eq_true rfl) rfl hm dX9_notices_50
      · replace hm := rc_t hm c_17
        refine lv_aload_n hx hb dX9_notices_32 rfl (lv_at hl 0 rfl) ?_
        refine lv_iload_n hx hb dX9_notices_33 rfl (lv_at hl 1 rfl) ?_
        refine lv_aload_n hx hb dX9_notices_34 rfl (lv_at hl 0 rfl) ?_
        refine lv_iload_n hx hb dX9_notices_35 rfl (lv_at hl 2 rfl) ?_
        obtain ⟨w_14, σ_14, hc_14, hm0⟩ := rc_bd_inv hm
        clear hm
        refine rc_ci hS (va_runV (As := [.int u2]) (rest := [.int u1, .ref a0]) ⟨hx, hb, hml, hown, hts⟩ (k_X9_part l hT a0 u2 h0 H.size _ _ _ hc_14) (cwV 1 hts (rc_gV tw_7_227 tw_7_229 tw_p_33 tw_1_14 tw_7_230) rfl rfl rfl (by decide +kernel) ⟨Nat.le_of_ble_eq_true rfl, Nat.le_of_ble_eq_true rfl⟩) (rc_preV hT hW hK hE hS h0 (by decide) rfl (q := (RX9, TX9, 22)) rfl [.int u2]) rfl rfl hl.1 rfl (lv_room (Nat.le_of_ble_eq_true rfl)) dX9_notices_36 ⟨Nat.le_of_ble_eq_true rfl, Nat.le_of_ble_eq_true rfl⟩) (fun H locs hW hS => ?_)
        have hm := hm0
        clear hm0 hc_14
        obtain ⟨w_15, σ_15, hc_15, hm0⟩ := rc_bd_inv hm
        clear hm
        refine rc_ci hS (va_runV (As := [.int u1, .int w_14]) (rest := []) ⟨hx, hb, hml, hown, hts⟩ (k_X9_notes l hT a0 u1 w_14 h0 H.size _ _ _ hc_15) (cwV 2 hts (rc_gV tw_8_38 tw_8_40 tw_p_41 tw_1_14 tw_8_41) rfl rfl rfl (by decide +kernel) ⟨Nat.le_of_ble_eq_true rfl, Nat.le_of_ble_eq_true rfl⟩) (rc_preV hT hW hK hE hS h0 (by decide) rfl (q := (RX9, TX9, 22)) rfl [.int u1, .int w_14]) rfl rfl hl.1 rfl (lv_room (Nat.le_of_ble_eq_true rfl)) dX9_notices_39 ⟨Nat.le_of_ble_eq_true rfl, Nat.le_of_ble_eq_true rfl⟩) (fun H locs hW hS => ?_)
        have hm := hm0
        clear hm0 hc_15
        refine lv_if_eq (tgt := 49) hx hb dX9_notices_42 (by decide) (fun c_16 => ?_) (fun c_16 => ?_)
        · replace hm := rc_t hm c_16
          refine lv_iconst (v := 0) hx hb dX9_notices_49 (by decide) ?_
          exact rc_ezret hx hb hr hlocks hW hS (Nat.le_of_ble_eq_true rfl) (Nat.le_of_ble_eq_true rfl) rfl hm dX9_notices_50
        · replace hm := rc_f hm c_16
          refine lv_iconst (v := 1) hx hb dX9_notices_45 (by decide) ?_
          refine lv_goto (tgt := 50) hx hb dX9_notices_46 (by decide) ?_
          exact rc_ezret hx hb hr hlocks hW hS (Nat.le_of_ble_eq_true rfl) (Nat.le_of_ble_eq_true rfl) rfl hm dX9_notices_50
set_option maxHeartbeats 4000000 in
set_option maxRecDepth 100000 in
theorem k_X9_noticing (l : Launch) {Y : rc_Y} {sh : Nat → Nat} {rf : rc_F} (hT : rc_T Y sh rf) (a0 : Nat) (u1 : Int32) (h0 : sh a0 = 10) (sz : Nat) (σ σ' : rc_S) (r : Int32) (hm : f_X9_noticing rf a0 u1 σ = some (r, σ')) : Met l yX9_noticing (Cond.code yX9_noticing cX9_noticing 2 (some .int) :: rc_big) ({ frames := 2, cells := 0, slots := 0, locals := 46 } : Room) (rc_P Y sh rf σ sz [.ref a0, .int u1]) (va_Qi (fun (r' : Int32) (_ : Unit) => r' = r) (fun _ t => rc_W Y sh rf σ' t.heap) (rc_A sh sz)) 0 0 (rc_A sh sz) := by
  refine Met.ofW (cc := cX9_noticing) (maxL := 2) (ret := (some .int)) (by decide +kernel) rfl ?_
  intro p e s m args below meth c s₁ B hml hv
  obtain ⟨rfl, hsz, hW, hK, hE⟩ := hv
  have hx := B.exec
  have hb := B.bytes
  have hr := B.returns
  have hts : ∀ w ∈ rc_big, w.before _ s = true := fun w h => atoms_spec (ws := Cond.code yX9_noticing cX9_noticing 2 (some .int) :: rc_big) B.pre w (List.mem_cons_of_mem _ h)
  have hown : s.vm.findClass RX9 = some m.cls := findClass_of_methodNamed B.named
  have hlocks := B.notSynchronized
  clear B
  subst hsz
  have hS : va_S (rc_A sh s.heap.size) s.heap s.heap [] := va_S.rf
  have hl := lv_entry ([.ref a0, .int u1]) (n := 2) (Nat.le_of_ble_eq_true rfl)
  rw [lg_entry_eq]
  generalize (lg_sl ([.ref a0, .int u1]) ++ List.replicate (2 - (lg_sl ([.ref a0, .int u1])).length) Slot.unset).toArray = ls at hl ⊢
  have hl : lv_has ls 2 [(0, .ref a0), (1, .int u1)] := hl
  unfold f_X9_noticing at hm
  refine lv_aload_n hx hb dX9_noticing_0 rfl (lv_at hl 0 rfl) ?_
  refine lv_aload_n hx hb dX9_noticing_1 rfl (lv_at hl 0 rfl) ?_
  refine lv_iload_n hx hb dX9_noticing_2 rfl (lv_at hl 1 rfl) ?_
  obtain ⟨w_1, σ_1, hc_1, hm0⟩ := rc_bd_inv hm
  clear hm
  refine rc_ci hS (va_runV (As := [.int u1]) (rest := [.ref a0]) ⟨hx, hb, hml, hown, hts⟩ (k_X9_isBarrel l hT a0 u1 h0 s.heap.size _ _ _ hc_1) (cwV 1 hts (rc_gV tw_7_211 tw_7_213 tw_p_30 tw_1_14 tw_7_214) rfl rfl rfl (by decide +kernel) ⟨Nat.le_of_ble_eq_true rfl, Nat.le_of_ble_eq_true rfl⟩) (rc_preV hT hW hK hE hS h0 (by decide) rfl (q := (RX9, TX9, 22)) rfl [.int u1]) rfl rfl hl.1 rfl (lv_room (Nat.le_of_ble_eq_true rfl)) dX9_noticing_3 ⟨Nat.le_of_ble_eq_true rfl, Nat.le_of_ble_eq_true rfl⟩) (fun H locs hW hS => ?_)
  have hm := hm0
  clear hm0 hc_1
  refine lv_if_eq (tgt := 13) hx hb dX9_noticing_6 (by decide) (fun c_10 => ?_) (fun c_10 => ?_)
  · replace hm := rc_t hm c_10
    refine lv_iconst (v := 1) hx hb dX9_noticing_13 (by decide) ?_
    refine rp_10_0 hx hb hts hown hK hW hS h0 tw_7_69 dX9_noticing_14 (fun σ_2 H locs eσ hW hS => ?_)
    replace hm := rc_lt_at hm eσ
    clear eσ
    refine lv_aload_n hx hb dX9_noticing_17 rfl (lv_at hl 0 rfl) ?_
    refine rg_10_0 hx hb hts hown hK hW h0 tw_7_69 dX9_noticing_18 ?_
    refine lv_if_le (tgt := 28) hx hb dX9_noticing_21 (by decide) (fun c_5 => ?_) (fun c_5 => ?_)
    · replace hm := rc_t hm c_5
      refine lv_aload_n hx hb dX9_noticing_28 rfl (lv_at hl 0 rfl) ?_
      refine lv_aload_n hx hb dX9_noticing_29 rfl (lv_at hl 0 rfl) ?_
      refine lv_iload_n hx hb dX9_noticing_30 rfl (lv_at hl 1 rfl) ?_
      obtain ⟨w_3, σ_3, hc_3, hm0⟩ := rc_bd_inv hm
      clear hm
      refine rc_ci hS (va_runV (As := [.int u1]) (rest := [.ref a0]) ⟨hx, hb, hml, hown, hts⟩ (k_X9_part l hT a0 u1 h0 H.size _ _ _ hc_3) (cwV 1 hts (rc_gV tw_7_227 tw_7_229 tw_p_33 tw_1_14 tw_7_230) rfl rfl rfl (by decide +kernel) ⟨Nat.le_of_ble_eq_true rfl, Nat.le_of_ble_eq_true rfl⟩) (rc_preV hT hW hK hE hS h0 (by decide) rfl (q := (RX9, TX9, 22)) rfl [.int u1]) rfl rfl hl.1 rfl (lv_room (Nat.le_of_ble_eq_true rfl)) dX9_noticing_31 ⟨Nat.le_of_ble_eq_true rfl, Nat.le_of_ble_eq_true rfl⟩) (fun H locs hW hS => ?_)
      have hm := hm0
      clear hm0 hc_3
      obtain ⟨w_4, σ_4, hc_4, hm0⟩ := rc_bd_inv hm
      clear hm
      refine rc_ci hS (va_runV (As := [.int w_3]) (rest := []) ⟨hx, hb, hml, hown, hts⟩ (k_X9_noses l hT a0 w_3 h0 H.size _ _ _ hc_4) (cwV 1 hts (rc_gV tw_8_34 tw_8_36 tw_p_40 tw_1_14 tw_8_37) rfl rfl rfl (by decide +kernel) ⟨Nat.le_of_ble_eq_true rfl, Nat.le_of_ble_eq_true rfl⟩) (rc_preV hT hW hK hE hS h0 (by decide) rfl (q := (RX9, TX9, 22)) rfl [.int w_3]) rfl rfl hl.1 rfl (lv_room (Nat.le_of_ble_eq_true rfl)) dX9_noticing_34 ⟨Nat.le_of_ble_eq_true rfl, Nat.le_of_ble_eq_true rfl⟩) (fun H locs hW hS => ?_)
      have hm := hm0
      clear hm0 hc_4
      exact rc_eiret hx hb hr hlocks hW hS (Nat.le_of_ble_eq_true rfl) (Nat.le_of_ble_eq_true rfl) hm dX9_noticing_37
    · replace hm := rc_f hm c_5
      refine lv_iconst (v := 0) hx hb dX9_noticing_24 (by decide) ?_
      refine lv_goto (tgt := 37) hx hb dX9_noticing_25 (by decide) ?_
      exact rc_eiret hx hb hr hlocks hW hS (Nat.le_of_ble_eq_true rfl) (Nat.le_of_ble_eq_true rfl) hm dX9_noticing_37
  · replace hm := rc_f hm c_10
    refine lv_iconst (v := 0) hx hb dX9_noticing_9 (by decide) ?_
    refine lv_goto (tgt := 14) hx hb dX9_noticing_10 (by decide) ?_
    refine rp_10_0 hx hb hts hown hK hW hS h0 tw_7_69 dX9_noticing_14 (fun σ_6 H locs eσ hW hS => ?_)
    replace hm := rc_lt_at hm eσ
    clear eσ
    refine lv_aload_n hx hb dX9_noticing_17 rfl (lv_at hl 0 rfl) ?_
    refine rg_10_0 hx hb hts hown hK hW h0 tw_7_69 dX9_noticing_18 ?_
    refine lv_if_le (tgt := 28) hx hb dX9_noticing_21 (by decide) (fun c_9 => ?_) (fun c_9 => ?_)
    · replace hm := rc_t hm c_9
      refine lv_aload_n hx hb dX9_noticing_28 rfl (lv_at hl 0 rfl) ?_
      refine lv_aload_n hx hb dX9_noticing_29 rfl (lv_at hl 0 rfl) ?_
      refine lv_iload_n hx hb dX9_noticing_30 rfl (lv_at hl 1 rfl) ?_
      obtain ⟨w_7, σ_7, hc_7, hm0⟩ := rc_bd_inv hm
      clear hm
      refine rc_ci hS (va_runV (As := [.int u1]) (rest := [.ref a0]) ⟨hx, hb, hml, hown, hts⟩ (k_X9_part l hT a0 u1 h0 H.size _ _ _ hc_7) (cwV 1 hts (rc_gV tw_7_227 tw_7_229 tw_p_33 tw_1_14 tw_7_230) rfl rfl rfl (by decide +kernel) ⟨Nat.le_of_ble_eq_true rfl, Nat.le_of_ble_eq_true rfl⟩) (rc_preV hT hW hK hE hS h0 (by decide) rfl (q := (RX9, TX9, 22)) rfl [.int u1]) rfl rfl hl.1 rfl (lv_room (Nat.le_of_ble_eq_true rfl)) dX9_noticing_31 ⟨Nat.le_of_ble_eq_true rfl, Nat.le_of_ble_eq_true rfl⟩) (fun H locs hW hS => ?_)
      have hm := hm0
      clear hm0 hc_7
      obtain ⟨w_8, σ_8, hc_8, hm0⟩ := rc_bd_inv hm
      clear hm
      refine rc_ci hS (va_runV (As := [.int w_7]) (rest := []) ⟨hx, hb, hml, hown, hts⟩ (k_X9_noses l hT a0 w_7 h0 H.size _ _ _ hc_8) (cwV 1 hts (rc_gV tw_8_34 tw_8_36 tw_p_40 tw_1_14 tw_8_37) rfl rfl rfl (by decide +kernel) ⟨Nat.le_of_ble_eq_true rfl, Nat.le_of_ble_eq_true rfl⟩) (rc_preV hT hW hK hE hS h0 (by decide) rfl (q := (RX9, TX9, 22)) rfl [.int w_7]) rfl rfl hl.1 rfl (lv_room (Nat.le_of_ble_eq_true rfl)) dX9_noticing_34 ⟨Nat.le_of_ble_eq_true rfl, Nat.le_of_ble_eq_true rfl⟩) (fun H locs hW hS => ?_)
      have hm := hm0
      clear hm0 hc_8
      exact rc_eiret hx hb hr hlocks hW hS (Nat.le_of_ble_eq_true rfl) (Nat.le_of_ble_eq_true rfl) hm dX9_noticing_37
    · replace hm := rc_f hm c_9
      refine lv_iconst (v := 0) hx hb dX9_noticing_24 (by decide) ?_
      refine lv_goto (tgt := 37) hx hb dX9_noticing_25 (by decide) ?_
      exact rc_eiret hx hb hr hlocks hW hS (Nat.le_of_ble_eq_true rfl) (Nat.le_of_ble_eq_true rfl) hm dX9_noticing_37
set_option maxHeartbeats 4000000 in
set_option maxRecDepth 100000 in
theorem k_X9_hidden (l : Launch) {Y : rc_Y} {sh : Nat → Nat} {rf : rc_F} (hT : rc_T Y sh rf) (a0 : Nat) (u1 : Int32) (h0 : sh a0 = 10) (sz : Nat) (σ σ' : rc_S) (r : Int32) (hm : f_X9_hidden rf a0 u1 σ = some (r, σ')) : Met l yX9_hidden (Cond.code yX9_hidden cX9_hidden 3 (some .int) :: rc_big) ({ frames := 3, cells := 0, slots := 0, locals := 64 } : Room) (rc_P Y sh rf σ sz [.ref a0, .int u1]) (va_Qi (fun (r' : Int32) (_ : Unit) => r' = r) (fun _ t => rc_W Y sh rf σ' t.heap) (rc_A sh sz)) 0 0 (rc_A sh sz) := by
  refine Met.ofW (cc := cX9_hidden) (maxL := 3) (ret := (some .int)) (by decide +kernel) rfl ?_
  intro p e s m args below meth c s₁ B hml hv
  obtain ⟨rfl, hsz, hW, hK, hE⟩ := hv
  have hx := B.exec
  have hb := B.bytes
  have hr := B.returns
  have hts : ∀ w ∈ rc_big, w.before _ s = true := fun w h => atoms_spec (ws := Cond.code yX9_hidden cX9_hidden 3 (some .int) :: rc_big) B.pre w (List.mem_cons_of_mem _ h)
  have hown : s.vm.findClass RX9 = some m.cls := findClass_of_methodNamed B.named
  have hlocks := B.notSynchronized
  clear B
  subst hsz
  have hS : va_S (rc_A sh s.heap.size) s.heap s.heap [] := va_S.rf
  have hl := lv_entry ([.ref a0, .int u1]) (n := 3) (Nat.le_of_ble_eq_true rfl)
  rw [lg_entry_eq]
  generalize (lg_sl ([.ref a0, .int u1]) ++ List.replicate (3 - (lg_sl ([.ref a0, .int u1])).length) Slot.unset).toArray = ls at hl ⊢
  have hl : lv_has ls 3 [(0, .ref a0), (1, .int u1)] := hl
  have lp_73 : ∀ (v1 : Int32) (K : Int32 → rc_S → Option (Int32 × rc_S)) (hKK : ∀ (v2 : Int32) (σ : rc_S) (H : Heap) (locs : List Loc) (ls : Array Slot), K v2 σ = some (r, σ') → rc_W Y sh rf σ H → va_S (rc_A sh s.heap.size) s.heap H locs → lv_has ls 3 [(2, .int v2)] → W p l e (headSpec (Cond.code yX9_hidden cX9_hidden 3 (some .int) :: rc_big) ({ frames := 3, cells := 0, slots := 0, locals := 64 } : Room)).room s m (([.ref a0, .int u1] : List Value).toArray) below meth c H locs (0 + 0 + 0 + 0 + 0) (0 + 0 + 0 + 0 + 0) (MQ below (va_Qi (fun (r' : Int32) (_ : Unit) => r' = r) (fun _ t => rc_W Y sh rf σ' t.heap) (rc_A sh s.heap.size)) ([.ref a0, .int u1] : List Value).toArray s 0 0 (rc_A sh s.heap.size)) (F0 m 105 ls [])) (n : Nat) (v2 : Int32) (σ : rc_S) (H : Heap) (locs : List Loc) (ls : Array Slot), f_X9_hidden_73 rf a0 v1 K n v2 σ = some (r, σ') → rc_W Y sh rf σ H → va_S (rc_A sh s.heap.size) s.heap H locs → lv_has ls 3 [(0, .ref a0), (1, .int v1), (2, .int v2)] → W p l e (headSpec (Cond.code yX9_hidden cX9_hidden 3 (some .int) :: rc_big) ({ frames := 3, cells := 0, slots := 0, locals := 64 } : Room)).room s m (([.ref a0, .int u1] : List Value).toArray) below meth c H locs (0 + 0 + 0 + 0 + 0) (0 + 0 + 0 + 0 + 0) (MQ below (va_Qi (fun (r' : Int32) (_ : Unit) => r' = r) (fun _ t => rc_W Y sh rf σ' t.heap) (rc_A sh s.heap.size)) ([.ref a0, .int u1] : List Value).toArray s 0 0 (rc_A sh s.heap.size)) (F0 m 73 ls []) := by
    intro v1 K hKK n
    induction n with
    | zero =>
      intro v2 σ H locs ls hm
      rw [f_X9_hidden_73] at hm
      cases hm
    | succ n ih =>
      intro v2 σ H locs ls hm hW hS hl
      rw [f_X9_hidden_73] at hm
      refine lv_aload_n hx hb dX9_hidden_73 rfl (lv_at hl 0 rfl) ?_
      refine lv_aload_n hx hb dX9_hidden_74 rfl (lv_at hl 0 rfl) ?_
      refine lv_iload_n hx hb dX9_hidden_75 rfl (lv_at hl 1 rfl) ?_
      refine lv_iconst (v := 2) hx hb dX9_hidden_76 (by decide) ?_
      obtain ⟨w_7, σ_7, hc_7, hm0⟩ := rc_bd_inv hm
      clear hm
      refine rc_ci hS (va_runV (As := [.int v1, .int (2 : Int32)]) (rest := [.ref a0]) ⟨hx, hb, hml, hown, hts⟩ (k_X9_of l hT a0 v1 (2 : Int32) h0 H.size _ _ _ hc_7) (cwV 2 hts (rc_gV tw_7_163 tw_7_165 tw_p_20 tw_1_14 tw_7_166) rfl rfl rfl (by decide +kernel) ⟨Nat.le_of_ble_eq_true rfl, Nat.le_of_ble_eq_true rfl⟩) (rc_preV hT hW hK hE hS h0 (by decide) rfl (q := (RX9, TX9, 22)) rfl [.int v1, .int (2 : Int32)]) rfl rfl hl.1 rfl (lv_room (Nat.le_of_ble_eq_true rfl)) dX9_hidden_77 ⟨Nat.le_of_ble_eq_true rfl, Nat.le_of_ble_eq_true rfl⟩) (fun H locs hW hS => ?_)
      have hm := hm0
      clear hm0 hc_7
      refine lv_iload_n hx hb dX9_hidden_80 rfl (lv_at hl 2 rfl) ?_
      refine lv_iadd hx hb dX9_hidden_81 ?_
      refine lv_aload_n hx hb dX9_hidden_82 rfl (lv_at hl 0 rfl) ?_
      refine lv_iload_n hx hb dX9_hidden_83 rfl (lv_at hl 1 rfl) ?_
      refine lv_iconst (v := 1) hx hb dX9_hidden_84 (by decide) ?_
      obtain ⟨w_8, σ_8, hc_8, hm0⟩ := rc_bd_inv hm
      clear hm
      refine rc_ci hS (va_runV (As := [.int v1, .int (1 : Int32)]) (rest := [.int (w_7 + v2), .ref a0]) ⟨hx, hb, hml, hown, hts⟩ (k_X9_of l hT a0 v1 (1 : Int32) h0 H.size _ _ _ hc_8) (cwV 2 hts (rc_gV tw_7_163 tw_7_165 tw_p_20 tw_1_14 tw_7_166) rfl rfl rfl (by decide +kernel) ⟨Nat.le_of_ble_eq_true rfl, Nat.le_of_ble_eq_true rfl⟩) (rc_preV hT hW hK hE hS h0 (by decide) rfl (q := (RX9, TX9, 22)) rfl [.int v1, .int (1 : Int32)]) rfl rfl hl.1 rfl (lv_room (Nat.le_of_ble_eq_true rfl)) dX9_hidden_85 ⟨Nat.le_of_ble_eq_true rfl, Nat.le_of_ble_eq_true rfl⟩) (fun H locs hW hS => ?_)
      have hm := hm0
      clear hm0 hc_8
      refine lv_iload_n hx hb dX9_hidden_88 rfl (lv_at hl 2 rfl) ?_
      refine lv_iadd hx hb dX9_hidden_89 ?_
      obtain ⟨w_9, σ_9, hc_9, hm0⟩ := rc_bd_inv hm
      clear hm
      refine rc_ci hS (va_runS (As := [.int (w_7 + v2), .int (w_8 + v2)]) (rest := [.ref a0]) ⟨hx, hb, hml, hown, hts⟩ (k_X9_partOf l hT (w_7 + v2) (w_8 + v2)  H.size _ _ _ hc_9) (va_cwS 2 hts (rc_gS tw_7_231 tw_7_232 tw_1_14 tw_7_233) rfl rfl rfl (by decide +kernel) ⟨Nat.le_of_ble_eq_true rfl, Nat.le_of_ble_eq_true rfl⟩) (rc_preS hT hW hK hE hS [.int (w_7 + v2), .int (w_8 + v2)]) rfl rfl hl.1 rfl (lv_room (Nat.le_of_ble_eq_true rfl)) dX9_hidden_90 ⟨Nat.le_of_ble_eq_true rfl, Nat.le_of_ble_eq_true rfl⟩) (fun H locs hW hS => ?_)
      have hm := hm0
      clear hm0 hc_9
      obtain ⟨w_10, σ_10, hc_10, hm0⟩ := rc_bd_inv hm
      clear hm
      refine rc_ci hS (va_runV (As := [.int w_9]) (rest := []) ⟨hx, hb, hml, hown, hts⟩ (k_X9_noses l hT a0 w_9 h0 H.size _ _ _ hc_10) (cwV 1 hts (rc_gV tw_8_34 tw_8_36 tw_p_40 tw_1_14 tw_8_37) rfl rfl rfl (by decide +kernel) ⟨Nat.le_of_ble_eq_true rfl, Nat.le_of_ble_eq_true rfl⟩) (rc_preV hT hW hK hE hS h0 (by decide) rfl (q := (RX9, TX9, 22)) rfl [.int w_9]) rfl rfl hl.1 rfl (lv_room (Nat.le_of_ble_eq_true rfl)) dX9_hidden_93 ⟨Nat.le_of_ble_eq_true rfl, Nat.le_of_ble_eq_true rfl⟩) (fun H locs hW hS => ?_)
      have hm := hm0
      clear hm0 hc_10
      refine lv_if_eq (tgt := 105) hx hb dX9_hidden_96 (by decide) (fun c_12 => ?_) (fun c_12 => ?_)
      · replace hm := rc_t hm c_12
        exact hKK v2 σ_10 _ _ _ hm hW hS (lv_sub hl [2] rfl)
      · replace hm := rc_f hm c_12
        obtain ⟨v2_11, ev⟩ : ∃ y : Int32, y = (v2 + (-1)) := ⟨_, rfl⟩
        replace hm := rc_lt_at hm ev
        refine lv_iinc (v := v2_11) (lv' := [(2, .int v2_11), (0, .ref a0), (1, .int v1)]) hx hb dX9_hidden_99 hl (k := 2) rfl (by rw [ev]; rfl) (by decide) rfl (fun ls hl => ?_)
        clear ev
        refine lv_goto (tgt := 73) hx hb dX9_hidden_102 (by decide) ?_
        exact ih v2_11 σ_10 _ _ _ hm hW hS (lv_sub hl [1, 2, 0] rfl)
  unfold f_X9_hidden at hm
  refine lv_aload_n hx hb dX9_hidden_0 rfl (lv_at hl 0 rfl) ?_
  refine lv_aload_n hx hb dX9_hidden_1 rfl (lv_at hl 0 rfl) ?_
  refine lv_iload_n hx hb dX9_hidden_2 rfl (lv_at hl 1 rfl) ?_
  obtain ⟨w_1, σ_1, hc_1, hm0⟩ := rc_bd_inv hm
  clear hm
  refine rc_ci hS (va_runV (As := [.int u1]) (rest := [.ref a0]) ⟨hx, hb, hml, hown, hts⟩ (k_X9_filled l hT a0 u1 h0 s.heap.size _ _ _ hc_1) (cwV 1 hts (rc_gV tw_8_82 tw_8_84 tw_p_47 tw_1_14 tw_8_85) rfl rfl rfl (by decide +kernel) ⟨Nat.le_of_ble_eq_true rfl, Nat.le_of_ble_eq_true rfl⟩) (rc_preV hT hW hK hE hS h0 (by decide) rfl (q := (RX9, TX9, 22)) rfl [.int u1]) rfl rfl hl.1 rfl (lv_room (Nat.le_of_ble_eq_true rfl)) dX9_hidden_3 ⟨Nat.le_of_ble_eq_true rfl, Nat.le_of_ble_eq_true rfl⟩) (fun H locs hW hS => ?_)
  have hm := hm0
  clear hm0 hc_1
  refine rp_10_0 hx hb hts hown hK hW hS h0 tw_7_69 dX9_hidden_6 (fun σ_2 H locs eσ hW hS => ?_)
  replace hm := rc_lt_at hm eσ
  clear eσ
  refine lv_aload_n hx hb dX9_hidden_9 rfl (lv_at hl 0 rfl) ?_
  refine rg_10_0 hx hb hts hown hK hW h0 tw_7_69 dX9_hidden_10 ?_
  refine lv_if_le (tgt := 18) hx hb dX9_hidden_13 (by decide) (fun c_22 => ?_) (fun c_22 => ?_)
  · replace hm := rc_t hm c_22
    refine lv_aload_n hx hb dX9_hidden_18 rfl (lv_at hl 0 rfl) ?_
    refine lv_aload_n hx hb dX9_hidden_19 rfl (lv_at hl 0 rfl) ?_
    refine lv_iload_n hx hb dX9_hidden_20 rfl (lv_at hl 1 rfl) ?_
    obtain ⟨w_3, σ_3, hc_3, hm0⟩ := rc_bd_inv hm
    clear hm
    refine rc_ci hS (va_runV (As := [.int u1]) (rest := [.ref a0]) ⟨hx, hb, hml, hown, hts⟩ (k_X9_part l hT a0 u1 h0 H.size _ _ _ hc_3) (cwV 1 hts (rc_gV tw_7_227 tw_7_229 tw_p_33 tw_1_14 tw_7_230) rfl rfl rfl (by decide +kernel) ⟨Nat.le_of_ble_eq_true rfl, Nat.le_of_ble_eq_true rfl⟩) (rc_preV hT hW hK hE hS h0 (by decide) rfl (q := (RX9, TX9, 22)) rfl [.int u1]) rfl rfl hl.1 rfl (lv_room (Nat.le_of_ble_eq_true rfl)) dX9_hidden_21 ⟨Nat.le_of_ble_eq_true rfl, Nat.le_of_ble_eq_true rfl⟩) (fun H locs hW hS => ?_)
    have hm := hm0
    clear hm0 hc_3
    obtain ⟨w_4, σ_4, hc_4, hm0⟩ := rc_bd_inv hm
    clear hm
    refine rc_ci hS (va_runV (As := [.int w_3]) (rest := []) ⟨hx, hb, hml, hown, hts⟩ (k_X9_noses l hT a0 w_3 h0 H.size _ _ _ hc_4) (cwV 1 hts (rc_gV tw_8_34 tw_8_36 tw_p_40 tw_1_14 tw_8_37) rfl rfl rfl (by decide +kernel) ⟨Nat.le_of_ble_eq_true rfl, Nat.le_of_ble_eq_true rfl⟩) (rc_preV hT hW hK hE hS h0 (by decide) rfl (q := (RX9, TX9, 22)) rfl [.int w_3]) rfl rfl hl.1 rfl (lv_room (Nat.le_of_ble_eq_true rfl)) dX9_hidden_24 ⟨Nat.le_of_ble_eq_true rfl, Nat.le_of_ble_eq_true rfl⟩) (fun H locs hW hS => ?_)
    have hm := hm0
    clear hm0 hc_4
    refine lv_if_eq (tgt := 36) hx hb dX9_hidden_27 (by decide) (fun c_21 => ?_) (fun c_21 => ?_)
    · replace hm := rc_t hm c_21
      refine lv_bipush (v := 20) hx hb dX9_hidden_36 (by decide) ?_
      refine lv_aload_n hx hb dX9_hidden_38 rfl (lv_at hl 0 rfl) ?_
      refine lv_iload_n hx hb dX9_hidden_39 rfl (lv_at hl 1 rfl) ?_
      refine lv_iconst (v := 1) hx hb dX9_hidden_40 (by decide) ?_
      obtain ⟨w_5, σ_5, hc_5, hm0⟩ := rc_bd_inv hm
      clear hm
      refine rc_ci hS (va_runV (As := [.int u1, .int (1 : Int32)]) (rest := [.int (20 : Int32)]) ⟨hx, hb, hml, hown, hts⟩ (k_X9_of l hT a0 u1 (1 : Int32) h0 H.size _ _ _ hc_5) (cwV 2 hts (rc_gV tw_7_163 tw_7_165 tw_p_20 tw_1_14 tw_7_166) rfl rfl rfl (by decide +kernel) ⟨Nat.le_of_ble_eq_true rfl, Nat.le_of_ble_eq_true rfl⟩) (rc_preV hT hW hK hE hS h0 (by decide) rfl (q := (RX9, TX9, 22)) rfl [.int u1, .int (1 : Int32)]) rfl rfl hl.1 rfl (lv_room (Nat.le_of_ble_eq_true rfl)) dX9_hidden_41 ⟨Nat.le_of_ble_eq_true rfl, Nat.le_of_ble_eq_true rfl⟩) (fun H locs hW hS => ?_)
      have hm := hm0
      clear hm0 hc_5
      refine lv_isub hx hb dX9_hidden_44 ?_
      refine lv_aload_n hx hb dX9_hidden_45 rfl (lv_at hl 0 rfl) ?_
      refine rg_10_1 hx hb hts hown hK hW h0 tw_7_70 dX9_hidden_46 ?_
      refine lv_iconst (v := 2) hx hb dX9_hidden_49 (by decide) ?_
      refine rc_ialdj (j := 2) hx hb hK hW (rc_t_10_1 hT h0) (by decide) rfl (rc_inD (by decide)) (by decide) dX9_hidden_50 ?_
      refine lv_icmp_ge (tgt := 66) hx hb dX9_hidden_51 (by decide) (fun c_19 => ?_) (fun c_19 => ?_)
      · replace hm := rc_t hm c_19
        refine lv_aload_n hx hb dX9_hidden_66 rfl (lv_at hl 0 rfl) ?_
        refine rg_10_1 hx hb hts hown hK hW h0 tw_7_70 dX9_hidden_67 ?_
        refine lv_iconst (v := 2) hx hb dX9_hidden_70 (by decide) ?_
        refine rc_ialdj (j := 2) hx hb hK hW (rc_t_10_1 hT h0) (by decide) rfl (rc_inD (by decide)) (by decide) dX9_hidden_71 ?_
        refine lv_topi (fun v2_6 ev => ?_)
        replace hm := rc_lt_at hm ev
        clear ev
        refine lv_istore_n (lv' := [(2, .int v2_6), (0, .ref a0), (1, .int u1)]) hx hb dX9_hidden_72 rfl hl (by decide) rfl (fun ls hl => ?_)
        refine lp_73 u1 _ (fun v2_13 σ_14 H locs ls hm hW hS hl => ?_) rc_fu v2_6 σ_5 _ _ _ hm hW hS (lv_sub hl [1, 2, 0] rfl)
        refine lv_iload_n hx hb dX9_hidden_105 rfl (lv_at hl 0 rfl) ?_
        exact rc_eiret hx hb hr hlocks hW hS (Nat.le_of_ble_eq_true rfl) (Nat.le_of_ble_eq_true rfl) hm dX9_hidden_106
      · replace hm := rc_f hm c_19
        refine lv_bipush (v := 20) hx hb dX9_hidden_54 (by decide) ?_
        refine lv_aload_n hx hb dX9_hidden_56 rfl (lv_at hl 0 rfl) ?_
        refine lv_iload_n hx hb dX9_hidden_57 rfl (lv_at hl 1 rfl) ?_
        refine lv_iconst (v := 1) hx hb dX9_hidden_58 (by decide) ?_
        obtain ⟨w_15, σ_15, hc_15, hm0⟩ := rc_bd_inv hm
        clear hm
        refine rc_ci hS (va_runV (As := [.int u1, .int (1 : Int32)]) (rest := [.int (20 : Int32)]) ⟨hx, hb, hml, hown, hts⟩ (k_X9_of l hT a0 u1 (1 : Int32) h0 H.size _ _ _ hc_15) (cwV 2 hts (rc_gV tw_7_163 tw_7_165 tw_p_20 tw_1_14 tw_7_166) rfl rfl rfl (by decide +kernel) ⟨Nat.le_of_ble_eq_true rfl, Nat.le_of_ble_eq_true rfl⟩) (rc_preV hT hW hK hE hS h0 (by decide) rfl (q := (RX9, TX9, 22)) rfl [.int u1, .int (1 : Int32)]) rfl rfl hl.1 rfl (lv_room (Nat.le_of_ble_eq_true rfl)) dX9_hidden_59 ⟨Nat.le_of_ble_eq_true rfl, Nat.le_of_ble_eq_true rfl⟩) (fun H locs hW hS => ?_)
        have hm := hm0
        clear hm0 hc_15
        refine lv_isub hx hb dX9_hidden_62 ?_
        refine lv_goto (tgt := 72) hx hb dX9_hidden_63 (by decide) ?_
        refine lv_topi (fun v2_16 ev => ?_)
        replace hm := rc_lt_at hm ev
        clear ev
        refine lv_istore_n (lv' := [(2, .int v2_16), (0, .ref a0), (1, .int u1)]) hx hb dX9_hidden_72 rfl hl (by decide) rfl (fun ls hl => ?_)
        refine lp_73 u1 _ (fun v2_17 σ_18 H locs ls hm hW hS hl => ?_) rc_fu v2_16 σ_15 _ _ _ hm hW hS (lv_sub hl [1, 2, 0] rfl)
        refine lv_iload_n hx hb dX9_hidden_105 rfl (lv_at hl 0 rfl) ?_
        exact rc_eiret hx hb hr hlocks hW hS (Nat.le_of_ble_eq_true rfl) (Nat.le_of_ble_eq_true rfl) hm dX9_hidden_106
    · replace hm := rc_f hm c_21
      refine lv_aload_n hx hb dX9_hidden_30 rfl (lv_at hl 0 rfl) ?_
      refine lv_iconst (v := 2) hx hb dX9_hidden_31 (by decide) ?_
      obtain ⟨w_20, σ_20, hc_20, hm0⟩ := rc_bd_inv hm
      clear hm
      refine rc_ci hS (va_runV (As := [.int (2 : Int32)]) (rest := []) ⟨hx, hb, hml, hown, hts⟩ (k_X9_fails l hT a0 (2 : Int32) h0 H.size _ _ _ hc_20) (cwV 1 hts (rc_gV tw_7_187 tw_7_189 tw_p_26 tw_1_14 tw_7_190) rfl rfl rfl (by decide +kernel) ⟨Nat.le_of_ble_eq_true rfl, Nat.le_of_ble_eq_true rfl⟩) (rc_preV hT hW hK hE hS h0 (by decide) rfl (q := (RX9, TX9, 22)) rfl [.int (2 : Int32)]) rfl rfl hl.1 rfl (lv_room (Nat.le_of_ble_eq_true rfl)) dX9_hidden_32 ⟨Nat.le_of_ble_eq_true rfl, Nat.le_of_ble_eq_true rfl⟩) (fun H locs hW hS => ?_)
      have hm := hm0
      clear hm0 hc_20
      exact rc_eiret hx hb hr hlocks hW hS (Nat.le_of_ble_eq_true rfl) (Nat.le_of_ble_eq_true rfl) hm dX9_hidden_35
  · replace hm := rc_f hm c_22
    refine lv_iconst (v := 0) hx hb dX9_hidden_16 (by decide) ?_
    exact rc_eiret hx hb hr hlocks hW hS (Nat.le_of_ble_eq_true rfl) (Nat.le_of_ble_eq_true rfl) hm dX9_hidden_17
set_option maxHeartbeats 4000000 in
set_option maxRecDepth 100000 in
theorem k_X9_hiddenAgain (l : Launch) {Y : rc_Y} {sh : Nat → Nat} {rf : rc_F} (hT : rc_T Y sh rf) (a0 : Nat) (u1 : Int32) (h0 : sh a0 = 10) (sz : Nat) (σ σ' : rc_S) (r : Int32) (hm : f_X9_hiddenAgain rf a0 u1 σ = some (r, σ')) : Met l yX9_hiddenAgain (Cond.code yX9_hiddenAgain cX9_hiddenAgain 2 (some .int) :: rc_big) ({ frames := 4, cells := 0, slots := 0, locals := 86 } : Room) (rc_P Y sh rf σ sz [.ref a0, .int u1]) (va_Qi (fun (r' : Int32) (_ : Unit) => r' = r) (fun _ t => rc_W Y sh rf σ' t.heap) (rc_A sh sz)) 0 0 (rc_A sh sz) := by
  refine Met.ofW (cc := cX9_hiddenAgain) (maxL := 2) (ret := (some .int)) (by decide +kernel) rfl ?_
  intro p e s m args below meth c s₁ B hml hv
  obtain ⟨rfl, hsz, hW, hK, hE⟩ := hv
  have hx := B.exec
  have hb := B.bytes
  have hr := B.returns
  have hts : ∀ w ∈ rc_big, w.before _ s = true := fun w h => atoms_spec (ws := Cond.code yX9_hiddenAgain cX9_hiddenAgain 2 (some .int) :: rc_big) B.pre w (List.mem_cons_of_mem _ h)
  have hown : s.vm.findClass RX9 = some m.cls := findClass_of_methodNamed B.named
  have hlocks := B.notSynchronized
  clear B
  subst hsz
  have hS : va_S (rc_A sh s.heap.size) s.heap s.heap [] := va_S.rf
  have hl := lv_entry ([.ref a0, .int u1]) (n := 2) (Nat.le_of_ble_eq_true rfl)
  rw [lg_entry_eq]
  generalize (lg_sl ([.ref a0, .int u1]) ++ List.replicate (2 - (lg_sl ([.ref a0, .int u1])).length) Slot.unset).toArray = ls at hl ⊢
  have hl : lv_has ls 2 [(0, .ref a0), (1, .int u1)] := hl
  unfold f_X9_hiddenAgain at hm
  refine lv_aload_n hx hb dX9_hiddenAgain_0 rfl (lv_at hl 0 rfl) ?_
  refine lv_iload_n hx hb dX9_hiddenAgain_1 rfl (lv_at hl 1 rfl) ?_
  obtain ⟨w_1, σ_1, hc_1, hm0⟩ := rc_bd_inv hm
  clear hm
  refine rc_ci hS (va_runV (As := [.int u1]) (rest := []) ⟨hx, hb, hml, hown, hts⟩ (k_X9_hidden l hT a0 u1 h0 s.heap.size _ _ _ hc_1) (cwV 1 hts (rc_gV tw_8_111 tw_8_104 tw_8_105 tw_1_14 tw_8_106) rfl rfl rfl (by decide +kernel) ⟨Nat.le_of_ble_eq_true rfl, Nat.le_of_ble_eq_true rfl⟩) (rc_preV hT hW hK hE hS h0 (by decide) rfl (q := (RX9, TX9, 22)) rfl [.int u1]) rfl rfl hl.1 rfl (lv_room (Nat.le_of_ble_eq_true rfl)) dX9_hiddenAgain_2 ⟨Nat.le_of_ble_eq_true rfl, Nat.le_of_ble_eq_true rfl⟩) (fun H locs hW hS => ?_)
  have hm := hm0
  clear hm0 hc_1
  exact rc_eiret hx hb hr hlocks hW hS (Nat.le_of_ble_eq_true rfl) (Nat.le_of_ble_eq_true rfl) hm dX9_hiddenAgain_5
set_option maxHeartbeats 4000000 in
set_option maxRecDepth 100000 in
theorem k_X9_wouldCatch (l : Launch) {Y : rc_Y} {sh : Nat → Nat} {rf : rc_F} (hT : rc_T Y sh rf) (a0 : Nat) (u1 : Int32) (h0 : sh a0 = 10) (sz : Nat) (σ σ' : rc_S) (r : Int32) (hm : f_X9_wouldCatch rf a0 u1 σ = some (r, σ')) : Met l yX9_wouldCatch (Cond.code yX9_wouldCatch cX9_wouldCatch 2 (some .int) :: rc_big) ({ frames := 2, cells := 0, slots := 0, locals := 46 } : Room) (rc_P Y sh rf σ sz [.ref a0, .int u1]) (va_Qi (fun (r' : Int32) (_ : Unit) => r' = r) (fun _ t => rc_W Y sh rf σ' t.heap) (rc_A sh sz)) 0 0 (rc_A sh sz) := by
  refine Met.ofW (cc := cX9_wouldCatch) (maxL := 2) (ret := (some .int)) (by decide +kernel) rfl ?_
  intro p e s m args below meth c s₁ B hml hv
  obtain ⟨rfl, hsz, hW, hK, hE⟩ := hv
  have hx := B.exec
  have hb := B.bytes
  have hr := B.returns
  have hts : ∀ w ∈ rc_big, w.before _ s = true := fun w h => atoms_spec (ws := Cond.code yX9_wouldCatch cX9_wouldCatch 2 (some .int) :: rc_big) B.pre w (List.mem_cons_of_mem _ h)
  have hown : s.vm.findClass RX9 = some m.cls := findClass_of_methodNamed B.named
  have hlocks := B.notSynchronized
  clear B
  subst hsz
  have hS : va_S (rc_A sh s.heap.size) s.heap s.heap [] := va_S.rf
  have hl := lv_entry ([.ref a0, .int u1]) (n := 2) (Nat.le_of_ble_eq_true rfl)
  rw [lg_entry_eq]
  generalize (lg_sl ([.ref a0, .int u1]) ++ List.replicate (2 - (lg_sl ([.ref a0, .int u1])).length) Slot.unset).toArray = ls at hl ⊢
  have hl : lv_has ls 2 [(0, .ref a0), (1, .int u1)] := hl
  unfold f_X9_wouldCatch at hm
  refine lv_aload_n hx hb dX9_wouldCatch_0 rfl (lv_at hl 0 rfl) ?_
  refine lv_iload_n hx hb dX9_wouldCatch_1 rfl (lv_at hl 1 rfl) ?_
  refine lv_iconst (v := 1) hx hb dX9_wouldCatch_2 (by decide) ?_
  refine lv_bipush (v := 9) hx hb dX9_wouldCatch_3 (by decide) ?_
  obtain ⟨w_1, σ_1, hc_1, hm0⟩ := rc_bd_inv hm
  clear hm
  refine rc_ci hS (va_runS (As := [.int u1, .int (1 : Int32), .int (9 : Int32)]) (rest := [.ref a0]) ⟨hx, hb, hml, hown, hts⟩ (k_X9_in l hT u1 (1 : Int32) (9 : Int32)  s.heap.size _ _ _ hc_1) (va_cwS 3 hts (rc_gS tw_7_152 tw_7_153 tw_1_14 tw_7_154) rfl rfl rfl (by decide +kernel) ⟨Nat.le_of_ble_eq_true rfl, Nat.le_of_ble_eq_true rfl⟩) (rc_preS hT hW hK hE hS [.int u1, .int (1 : Int32), .int (9 : Int32)]) rfl rfl hl.1 rfl (lv_room (Nat.le_of_ble_eq_true rfl)) dX9_wouldCatch_5 ⟨Nat.le_of_ble_eq_true rfl, Nat.le_of_ble_eq_true rfl⟩) (fun H locs hW hS => ?_)
  have hm := hm0
  clear hm0 hc_1
  refine lv_if_eq (tgt := 15) hx hb dX9_wouldCatch_8 (by decide) (fun c_14 => ?_) (fun c_14 => ?_)
  · replace hm := rc_t hm c_14
    refine lv_iconst (v := 1) hx hb dX9_wouldCatch_15 (by decide) ?_
    refine rp_10_0 hx hb hts hown hK hW hS h0 tw_7_69 dX9_wouldCatch_16 (fun σ_2 H locs eσ hW hS => ?_)
    replace hm := rc_lt_at hm eσ
    clear eσ
    refine lv_aload_n hx hb dX9_wouldCatch_19 rfl (lv_at hl 0 rfl) ?_
    refine rg_10_0 hx hb hts hown hK hW h0 tw_7_69 dX9_wouldCatch_20 ?_
    refine lv_if_le (tgt := 30) hx hb dX9_wouldCatch_23 (by decide) (fun c_7 => ?_) (fun c_7 => ?_)
    · replace hm := rc_t hm c_7
      refine lv_aload_n hx hb dX9_wouldCatch_30 rfl (lv_at hl 0 rfl) ?_
      refine lv_iconst (v := 0) hx hb dX9_wouldCatch_31 (by decide) ?_
      refine lv_iload_n hx hb dX9_wouldCatch_32 rfl (lv_at hl 1 rfl) ?_
      obtain ⟨w_3, σ_3, hc_3, hm0⟩ := rc_bd_inv hm
      clear hm
      refine rc_ci hS (va_runV (As := [.int (0 : Int32), .int u1]) (rest := []) ⟨hx, hb, hml, hown, hts⟩ (k_X9_caught l hT a0 (0 : Int32) u1 h0 H.size _ _ _ hc_3) (cwV 2 hts (rc_gV tw_7_159 tw_7_161 tw_p_19 tw_1_14 tw_7_162) rfl rfl rfl (by decide +kernel) ⟨Nat.le_of_ble_eq_true rfl, Nat.le_of_ble_eq_true rfl⟩) (rc_preV hT hW hK hE hS h0 (by decide) rfl (q := (RX9, TX9, 22)) rfl [.int (0 : Int32), .int u1]) rfl rfl hl.1 rfl (lv_room (Nat.le_of_ble_eq_true rfl)) dX9_wouldCatch_33 ⟨Nat.le_of_ble_eq_true rfl, Nat.le_of_ble_eq_true rfl⟩) (fun H locs hW hS => ?_)
      have hm := hm0
      clear hm0 hc_3
      refine lv_aload_n hx hb dX9_wouldCatch_36 rfl (lv_at hl 0 rfl) ?_
      refine lv_iconst (v := 1) hx hb dX9_wouldCatch_37 (by decide) ?_
      refine lv_iload_n hx hb dX9_wouldCatch_38 rfl (lv_at hl 1 rfl) ?_
      obtain ⟨w_4, σ_4, hc_4, hm0⟩ := rc_bd_inv hm
      clear hm
      refine rc_ci hS (va_runV (As := [.int (1 : Int32), .int u1]) (rest := [.int w_3]) ⟨hx, hb, hml, hown, hts⟩ (k_X9_caught l hT a0 (1 : Int32) u1 h0 H.size _ _ _ hc_4) (cwV 2 hts (rc_gV tw_7_159 tw_7_161 tw_p_19 tw_1_14 tw_7_162) rfl rfl rfl (by decide +kernel) ⟨Nat.le_of_ble_eq_true rfl, Nat.le_of_ble_eq_true rfl⟩) (rc_preV hT hW hK hE hS h0 (by decide) rfl (q := (RX9, TX9, 22)) rfl [.int (1 : Int32), .int u1]) rfl rfl hl.1 rfl (lv_room (Nat.le_of_ble_eq_true rfl)) dX9_wouldCatch_39 ⟨Nat.le_of_ble_eq_true rfl, Nat.le_of_ble_eq_true rfl⟩) (fun H locs hW hS => ?_)
      have hm := hm0
      clear hm0 hc_4
      refine lv_iadd hx hb dX9_wouldCatch_42 ?_
      refine lv_aload_n hx hb dX9_wouldCatch_43 rfl (lv_at hl 0 rfl) ?_
      refine lv_iconst (v := 2) hx hb dX9_wouldCatch_44 (by decide) ?_
      refine lv_iload_n hx hb dX9_wouldCatch_45 rfl (lv_at hl 1 rfl) ?_
      obtain ⟨w_5, σ_5, hc_5, hm0⟩ := rc_bd_inv hm
      clear hm
      refine rc_ci hS (va_runV (As := [.int (2 : Int32), .int u1]) (rest := [.int (w_3 + w_4)]) ⟨hx, hb, hml, hown, hts⟩ (k_X9_caught l hT a0 (2 : Int32) u1 h0 H.size _ _ _ hc_5) (cwV 2 hts (rc_gV tw_7_159 tw_7_161 tw_p_19 tw_1_14 tw_7_162) rfl rfl rfl (by decide +kernel) ⟨Nat.le_of_ble_eq_true rfl, Nat.le_of_ble_eq_true rfl⟩) (rc_preV hT hW hK hE hS h0 (by decide) rfl (q := (RX9, TX9, 22)) rfl [.int (2 : Int32), .int u1]) rfl rfl hl.1 rfl (lv_room (Nat.le_of_ble_eq_true rfl)) dX9_wouldCatch_46 ⟨Nat.le_of_ble_eq_true rfl, Nat.le_of_ble_eq_true rfl⟩) (fun H locs hW hS => ?_)
      have hm := hm0
      clear hm0 hc_5
      refine lv_iadd hx hb dX9_wouldCatch_49 ?_
      refine lv_aload_n hx hb dX9_wouldCatch_50 rfl (lv_at hl 0 rfl) ?_
      refine lv_iconst (v := 3) hx hb dX9_wouldCatch_51 (by decide) ?_
      refine lv_iload_n hx hb dX9_wouldCatch_52 rfl (lv_at hl 1 rfl) ?_
      obtain ⟨w_6, σ_6, hc_6, hm0⟩ := rc_bd_inv hm
      clear hm
      refine rc_ci hS (va_runV (As := [.int (3 : Int32), .int u1]) (rest := [.int ((w_3 + w_4) + w_5)]) ⟨hx, hb, hml, hown, hts⟩ (k_X9_caught l hT a0 (3 : Int32) u1 h0 H.size _ _ _ hc_6) (cwV 2 hts (rc_gV tw_7_159 tw_7_161 tw_p_19 tw_1_14 tw_7_162) rfl rfl rfl (by decide +kernel) ⟨Nat.le_of_ble_eq_true rfl, Nat.le_of_ble_eq_true rfl⟩) (rc_preV hT hW hK hE hS h0 (by decide) rfl (q := (RX9, TX9, 22)) rfl [.int (3 : Int32), .int u1]) rfl rfl hl.1 rfl (lv_room (Nat.le_of_ble_eq_true rfl)) dX9_wouldCatch_53 ⟨Nat.le_of_ble_eq_true rfl, Nat.le_of_ble_eq_true rfl⟩) (fun H locs hW hS => ?_)
      have hm := hm0
      clear hm0 hc_6
      refine lv_iadd hx hb dX9_wouldCatch_56 ?_
      exact rc_eiret hx hb hr hlocks hW hS (Nat.le_of_ble_eq_true rfl) (Nat.le_of_ble_eq_true rfl) hm dX9_wouldCatch_57
    · replace hm := rc_f hm c_7
      refine lv_iconst (v := 0) hx hb dX9_wouldCatch_26 (by decide) ?_
      refine lv_goto (tgt := 57) hx hb dX9_wouldCatch_27 (by decide) ?_
      exact rc_eiret hx hb hr hlocks hW hS (Nat.le_of_ble_eq_true rfl) (Nat.le_of_ble_eq_true rfl) hm dX9_wouldCatch_57
  · replace hm := rc_f hm c_14
    refine lv_iconst (v := 0) hx hb dX9_wouldCatch_11 (by decide) ?_
    refine lv_goto (tgt := 16) hx hb dX9_wouldCatch_12 (by decide) ?_
    refine rp_10_0 hx hb hts hown hK hW hS h0 tw_7_69 dX9_wouldCatch_16 (fun σ_8 H locs eσ hW hS => ?_)
    replace hm := rc_lt_at hm eσ
    clear eσ
    refine lv_aload_n hx hb dX9_wouldCatch_19 rfl (lv_at hl 0 rfl) ?_
    refine rg_10_0 hx hb hts hown hK hW h0 tw_7_69 dX9_wouldCatch_20 ?_
    refine lv_if_le (tgt := 30) hx hb dX9_wouldCatch_23 (by decide) (fun c_13 => ?_) (fun c_13 => ?_)
    · replace hm := rc_t hm c_13
      refine lv_aload_n hx hb dX9_wouldCatch_30 rfl (lv_at hl 0 rfl) ?_
      refine lv_iconst (v := 0) hx hb dX9_wouldCatch_31 (by decide) ?_
      refine lv_iload_n hx hb dX9_wouldCatch_32 rfl (lv_at hl 1 rfl) ?_
      obtain ⟨w_9, σ_9, hc_9, hm0⟩ := rc_bd_inv hm
      clear hm
      refine rc_ci hS (va_runV (As := [.int (0 : Int32), .int u1]) (rest := []) ⟨hx, hb, hml, hown, hts⟩ (k_X9_caught l hT a0 (0 : Int32) u1 h0 H.size _ _ _ hc_9) (cwV 2 hts (rc_gV tw_7_159 tw_7_161 tw_p_19 tw_1_14 tw_7_162) rfl rfl rfl (by decide +kernel) ⟨Nat.le_of_ble_eq_true rfl, Nat.le_of_ble_eq_true rfl⟩) (rc_preV hT hW hK hE hS h0 (by decide) rfl (q := (RX9, TX9, 22)) rfl [.int (0 : Int32), .int u1]) rfl rfl hl.1 rfl (lv_room (Nat.le_of_ble_eq_true rfl)) dX9_wouldCatch_33 ⟨Nat.le_of_ble_eq_true rfl, Nat.le_of_ble_eq_true rfl⟩) (fun H locs hW hS => ?_)
      have hm := hm0
      clear hm0 hc_9
      refine lv_aload_n hx hb dX9_wouldCatch_36 rfl (lv_at hl 0 rfl) ?_
      refine lv_iconst (v := 1) hx hb dX9_wouldCatch_37 (by decide) ?_
      refine lv_iload_n hx hb dX9_wouldCatch_38 rfl (lv_at hl 1 rfl) ?_
      obtain ⟨w_10, σ_10, hc_10, hm0⟩ := rc_bd_inv hm
      clear hm
      refine rc_ci hS (va_runV (As := [.int (1 : Int32), .int u1]) (rest := [.int w_9]) ⟨hx, hb, hml, hown, hts⟩ (k_X9_caught l hT a0 (1 : Int32) u1 h0 H.size _ _ _ hc_10) (cwV 2 hts (rc_gV tw_7_159 tw_7_161 tw_p_19 tw_1_14 tw_7_162) rfl rfl rfl (by decide +kernel) ⟨Nat.le_of_ble_eq_true rfl, Nat.le_of_ble_eq_true rfl⟩) (rc_preV hT hW hK hE hS h0 (by decide) rfl (q := (RX9, TX9, 22)) rfl [.int (1 : Int32), .int u1]) rfl rfl hl.1 rfl (lv_room (Nat.le_of_ble_eq_true rfl)) dX9_wouldCatch_39 ⟨Nat.le_of_ble_eq_true rfl, Nat.le_of_ble_eq_true rfl⟩) (fun H locs hW hS => ?_)
      have hm := hm0
      clear hm0 hc_10
      refine lv_iadd hx hb dX9_wouldCatch_42 ?_
      refine lv_aload_n hx hb dX9_wouldCatch_43 rfl (lv_at hl 0 rfl) ?_
      refine lv_iconst (v := 2) hx hb dX9_wouldCatch_44 (by decide) ?_
      refine lv_iload_n hx hb dX9_wouldCatch_45 rfl (lv_at hl 1 rfl) ?_
      obtain ⟨w_11, σ_11, hc_11, hm0⟩ := rc_bd_inv hm
      clear hm
      refine rc_ci hS (va_runV (As := [.int (2 : Int32), .int u1]) (rest := [.int (w_9 + w_10)]) ⟨hx, hb, hml, hown, hts⟩ (k_X9_caught l hT a0 (2 : Int32) u1 h0 H.size _ _ _ hc_11) (cwV 2 hts (rc_gV tw_7_159 tw_7_161 tw_p_19 tw_1_14 tw_7_162) rfl rfl rfl (by decide +kernel) ⟨Nat.le_of_ble_eq_true rfl, Nat.le_of_ble_eq_true rfl⟩) (rc_preV hT hW hK hE hS h0 (by decide) rfl (q := (RX9, TX9, 22)) rfl [.int (2 : Int32), .int u1]) rfl rfl hl.1 rfl (lv_room (Nat.le_of_ble_eq_true rfl)) dX9_wouldCatch_46 ⟨Nat.le_of_ble_eq_true rfl, Nat.le_of_ble_eq_true rfl⟩) (fun H locs hW hS => ?_)
      have hm := hm0
      clear hm0 hc_11
      refine lv_iadd hx hb dX9_wouldCatch_49 ?_
      refine lv_aload_n hx hb dX9_wouldCatch_50 rfl (lv_at hl 0 rfl) ?_
      refine lv_iconst (v := 3) hx hb dX9_wouldCatch_51 (by decide) ?_
      refine lv_iload_n hx hb dX9_wouldCatch_52 rfl (lv_at hl 1 rfl) ?_
      obtain ⟨w_12, σ_12, hc_12, hm0⟩ := rc_bd_inv hm
      clear hm
      refine rc_ci hS (va_runV (As := [.int (3 : Int32), .int u1]) (rest := [.int ((w_9 + w_10) + w_11)]) ⟨hx, hb, hml, hown, hts⟩ (k_X9_caught l hT a0 (3 : Int32) u1 h0 H.size _ _ _ hc_12) (cwV 2 hts (rc_gV tw_7_159 tw_7_161 tw_p_19 tw_1_14 tw_7_162) rfl rfl rfl (by decide +kernel) ⟨Nat.le_of_ble_eq_true rfl, Nat.le_of_ble_eq_true rfl⟩) (rc_preV hT hW hK hE hS h0 (by decide) rfl (q := (RX9, TX9, 22)) rfl [.int (3 : Int32), .int u1]) rfl rfl hl.1 rfl (lv_room (Nat.le_of_ble_eq_true rfl)) dX9_wouldCatch_53 ⟨Nat.le_of_ble_eq_true rfl, Nat.le_of_ble_eq_true rfl⟩) (fun H locs hW hS => ?_)
      have hm := hm0
      clear hm0 hc_12
      refine lv_iadd hx hb dX9_wouldCatch_56 ?_
      exact rc_eiret hx hb hr hlocks hW hS (Nat.le_of_ble_eq_true rfl) (Nat.le_of_ble_eq_true rfl) hm dX9_wouldCatch_57
    · replace hm := rc_f hm c_13
      refine lv_iconst (v := 0) hx hb dX9_wouldCatch_26 (by decide) ?_
      refine lv_goto (tgt := 57) hx hb dX9_wouldCatch_27 (by decide) ?_
      exact rc_eiret hx hb hr hlocks hW hS (Nat.le_of_ble_eq_true rfl) (Nat.le_of_ble_eq_true rfl) hm dX9_wouldCatch_57
