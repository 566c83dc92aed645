def f_X8_leave (rf : rc_F) (a0 : Nat) (u1 : Int32) (σ : rc_S) : Option (Nat × Int32 × rc_S) :=
  rc_bd (f_X2_setAside rf (rf a0 5) (rf a0 1) σ) fun _ σ_1 =>
  rc_bd (f_X7_letLeave rf (rf a0 0) u1 σ_1) fun w_2 σ_2 =>
  rc_bx (f_X8_kept rf a0 w_2 σ_2) (0 : Int32) fun w_3 σ_3 =>
  some (0, w_3, σ_3)
def f_X8_clear (rf : rc_F) (a0 : Nat) (u1 : Int32) (σ : rc_S) : Option (Nat × Int32 × rc_S) :=
  rc_bd (f_X2_setAside rf (rf a0 5) (rf a0 1) σ) fun _ σ_1 =>
  rc_bd (f_X7_clearRoof rf (rf a0 0) u1 σ_1) fun w_2 σ_2 =>
  rc_bx (f_X8_kept rf a0 w_2 σ_2) (0 : Int32) fun w_3 σ_3 =>
  some (0, w_3, σ_3)
def f_X8_year (rf : rc_F) (a0 : Nat) (σ : rc_S) : Option (Int32 × rc_S) :=
  rc_bd (f_X2_setAside rf (rf a0 5) (rf a0 1) σ) fun _ σ_1 =>
  rc_bd (f_X7_letYearGoBy rf (rf a0 0) σ_1) fun w_2 σ_2 =>
  rc_bd (f_X2_keepAside rf (rf a0 5) σ_2) fun _ σ_3 =>
  some (w_2, σ_3)
def f_X8_roofOf (rf : rc_F) (a0 : Nat) (u1 : Int32) (u2 : Int32) (σ : rc_S) : Option (Nat × Int32 × rc_S) :=
  rc_bd (f_X8_isOutside rf u1 (0 : Int32) (3 : Int32) σ) fun w_1 σ_1 =>
  if w_1 = 0 then
    if u2 = (0 : Int32) then
      rc_ck (rc_in u1 4) <|
      some (0, (σ_1 (rf (rf a0 1) 0) u1.toNatClampNeg), σ_1)
    else
    if u2 = (1 : Int32) then
      rc_bd (f_X1_barrelsUnder rf (rf a0 1) u1 σ_1) fun w_5 σ_5 =>
      some (0, w_5, σ_5)
    else
    if u2 = (2 : Int32) then
      rc_bd (f_X1_emptyUnder rf (rf a0 1) u1 σ_1) fun w_7 σ_7 =>
      some (0, w_7, σ_7)
    else
    if u2 = (3 : Int32) then
      rc_bd (f_X1_litresUnder rf (rf a0 1) u1 σ_1) fun w_9 σ_9 =>
      some (0, w_9, σ_9)
    else
    some (3, (0 : Int32), σ_1)
  else
    some (2, (0 : Int32), σ_1)
def f_X8_barrelOf (rf : rc_F) (a0 : Nat) (u1 : Int32) (u2 : Int32) (σ : rc_S) : Option (Nat × Int32 × rc_S) :=
  rc_bx (f_X8_existing rf a0 u1 σ) (0 : Int32) fun w_1 σ_1 =>
  if u2 = (0 : Int32) then
    some (0, (σ_1 w_1 0), σ_1)
  else
  if u2 = (1 : Int32) then
    some (0, (σ_1 w_1 1), σ_1)
  else
  if u2 = (2 : Int32) then
    some (0, (σ_1 w_1 2), σ_1)
  else
  if u2 = (3 : Int32) then
    some (0, (σ_1 w_1 3), σ_1)
  else
  if u2 = (4 : Int32) then
    some (0, (σ_1 w_1 5), σ_1)
  else
  if u2 = (5 : Int32) then
    rc_bd (f_X0_ageIn rf w_1 (σ_1 (rf a0 1) 7) σ_1) fun w_8 σ_8 =>
    some (0, w_8, σ_8)
  else
  if u2 = (6 : Int32) then
    rc_bd (f_X0_hailPart rf w_1 σ_1) fun w_10 σ_10 =>
    some (0, w_10, σ_10)
  else
  some (3, (0 : Int32), σ_1)
def f_X8_notices (rf : rc_F) (a0 : Nat) (u1 : Int32) (u2 : Int32) (σ : rc_S) : Option (Nat × Int32 × rc_S) :=
  rc_bd (f_X3_has rf (rf (rf a0 1) 3) u1 σ) fun w_1 σ_1 =>
  if w_1 = 0 then
    some (2, (0 : Int32), σ_1)
  else
    rc_bx (f_X8_existing rf a0 u2 σ_1) (0 : Int32) fun w_2 σ_2 =>
    rc_bd (f_X0_hailPart rf w_2 σ_2) fun w_3 σ_3 =>
    rc_bd (f_X3_doesNotice rf (rf (rf a0 1) 3) u1 w_3 σ_3) fun w_4 σ_4 =>
    rc_ck (decide (vp_nar .boolean w_4 = w_4)) <|
    some (0, w_4, σ_4)
def f_X8_noticing (rf : rc_F) (a0 : Nat) (u1 : Int32) (σ : rc_S) : Option (Nat × Int32 × rc_S) :=
  rc_bx (f_X8_existing rf a0 u1 σ) (0 : Int32) fun w_1 σ_1 =>
  rc_bd (f_X0_hailPart rf w_1 σ_1) fun w_2 σ_2 =>
  rc_bd (f_X3_thoseWhoNotice rf (rf (rf a0 1) 3) w_2 σ_2) fun w_3 σ_3 =>
  some (0, w_3, σ_3)
def f_X8_wouldCatch (rf : rc_F) (a0 : Nat) (u1 : Int32) (σ : rc_S) : Option (Nat × Int32 × rc_S) :=
  rc_bd (f_X8_isOutside rf u1 (1 : Int32) (9 : Int32) σ) fun w_1 σ_1 =>
  if w_1 = 0 then
    rc_bd (f_X1_litresIntoBarrels rf (rf a0 1) u1 σ_1) fun w_2 σ_2 =>
    some (0, w_2, σ_2)
  else
    some (3, (0 : Int32), σ_1)
def f_X8_wouldLose (rf : rc_F) (a0 : Nat) (u1 : Int32) (σ : rc_S) : Option (Nat × Int32 × rc_S) :=
  rc_bd (f_X8_isOutside rf u1 (1 : Int32) (9 : Int32) σ) fun w_1 σ_1 =>
  if w_1 = 0 then
    rc_bd (f_X8_litresOnRoofs rf u1 σ_1) fun w_2 σ_2 =>
    rc_bd (f_X1_litresIntoBarrels rf (rf a0 1) u1 σ_2) fun w_3 σ_3 =>
    some (0, (w_2 - w_3), σ_3)
  else
    some (3, (0 : Int32), σ_1)
def f_X8_vintage (rf : rc_F) (a0 : Nat) (u1 : Int32) (σ : rc_S) : Option (Nat × Int32 × rc_S) :=
  rc_bd (f_X8_isOutside rf u1 (0 : Int32) ((σ (rf a0 1) 5) - (1 : Int32)) σ) fun w_1 σ_1 =>
  if w_1 = 0 then
    rc_bd (f_X1_litresOfStorm rf (rf a0 1) u1 σ_1) fun w_2 σ_2 =>
    some (0, w_2, σ_2)
  else
    some (4, (0 : Int32), σ_1)
def f_X8_canPour (rf : rc_F) (a0 : Nat) (u1 : Int32) (u2 : Int32) (σ : rc_S) : Option (Nat × Int32 × rc_S) :=
  rc_bx (f_X8_existing rf a0 u1 σ) (0 : Int32) fun w_1 σ_1 =>
  rc_bx (f_X8_existing rf a0 u2 σ_1) (0 : Int32) fun w_2 σ_2 =>
  if u1 = u2 then
    some (0, (0 : Int32), σ_2)
  else
    if (σ_2 w_1 1) ≤ 0 then
      some (0, (0 : Int32), σ_2)
    else
      rc_bd (f_X0_room rf w_2 σ_2) fun w_3 σ_3 =>
      if w_3 ≤ 0 then
        some (0, (0 : Int32), σ_3)
      else
        rc_bd (f_X0_isFreeFor rf w_2 (σ_3 w_1 3) σ_3) fun w_4 σ_4 =>
        if w_4 = 0 then
          some (0, (0 : Int32), σ_4)
        else
          some (0, (1 : Int32), σ_4)
def f_X8_line (rf : rc_F) (a0 : Nat) (u1 : Int32) (σ : rc_S) : Option (Nat × Int32 × rc_S) :=
  rc_bx (f_X8_existing rf a0 u1 σ) (0 : Int32) fun w_1 σ_1 =>
  rc_bd (f_J4_setLength_d00df rf (rf a0 8) (0 : Int32) σ_1) fun _ σ_2 =>
  rc_bd (f_J4_append_bf812 rf (rf a0 8) (σ_2 w_1 0) σ_2) fun w_3 σ_3 =>
  rc_bd (f_J4_append_cf468 rf w_3 (58 : Int32) σ_3) fun w_4 σ_4 =>
  rc_bd (f_J4_append_bf812 rf w_4 (σ_4 w_1 1) σ_4) fun w_5 σ_5 =>
  rc_bd (f_X0_isEmpty rf w_1 σ_5) fun w_6 σ_6 =>
  if w_6 = 0 then
    rc_bd (f_J4_append_cf468 rf (rf a0 8) (35 : Int32) σ_6) fun w_12 σ_12 =>
    rc_bd (f_J4_append_bf812 rf w_12 (σ_12 w_1 3) σ_12) fun w_13 σ_13 =>
    rc_bd (f_J4_append_cf468 rf w_13 (109 : Int32) σ_13) fun w_14 σ_14 =>
    rc_bd (f_J4_append_bf812 rf w_14 (σ_14 w_1 5) σ_14) fun w_15 σ_15 =>
    if (σ_15 w_1 2) ≤ 0 then
      rc_bd (f_J4_length_8abf5 rf (rf a0 8) σ_15) fun w_16 σ_16 =>
      some (0, w_16, σ_16)
    else
      rc_bd (f_J4_append_cf468 rf (rf a0 8) (104 : Int32) σ_15) fun w_17 σ_17 =>
      rc_bd (f_J4_append_bf812 rf w_17 (σ_17 w_1 2) σ_17) fun w_18 σ_18 =>
      rc_bd (f_J4_length_8abf5 rf (rf a0 8) σ_18) fun w_19 σ_19 =>
      some (0, w_19, σ_19)
  else
    if (σ_6 w_1 2) ≤ 0 then
      rc_bd (f_J4_length_8abf5 rf (rf a0 8) σ_6) fun w_7 σ_7 =>
      some (0, w_7, σ_7)
    else
      rc_bd (f_J4_append_cf468 rf (rf a0 8) (104 : Int32) σ_6) fun w_8 σ_8 =>
      rc_bd (f_J4_append_bf812 rf w_8 (σ_8 w_1 2) σ_8) fun w_9 σ_9 =>
      rc_bd (f_J4_length_8abf5 rf (rf a0 8) σ_9) fun w_10 σ_10 =>
      some (0, w_10, σ_10)
def f_X8_character (rf : rc_F) (a0 : Nat) (u1 : Int32) (σ : rc_S) : Option (Nat × Int32 × rc_S) :=
  rc_bd (f_J4_length_8abf5 rf (rf a0 8) σ) fun w_1 σ_1 =>
  rc_bd (f_X8_isOutside rf u1 (0 : Int32) (w_1 - (1 : Int32)) σ_1) fun w_2 σ_2 =>
  if w_2 = 0 then
    rc_bd (f_J4_charAt_5068e rf (rf a0 8) u1 σ_2) fun w_3 σ_3 =>
    rc_ck (decide (vp_nar .char w_3 = w_3)) <|
    some (0, w_3, σ_3)
  else
    some (2, (0 : Int32), σ_2)
def f_X8_undo (rf : rc_F) (a0 : Nat) (σ : rc_S) : Option (Nat × Int32 × rc_S) :=
  if (σ (rf a0 5) 2) = 0 then
    some (5, (0 : Int32), σ)
  else
    rc_bd (f_X2_takeLatest rf (rf a0 5) σ) fun w_1 σ_1 =>
    rc_bd (f_X1_copy rf (rf a0 1) w_1 σ_1) fun _ σ_2 =>
    some (0, (σ_2 (rf a0 5) 2), σ_2)
def f_X8_save (rf : rc_F) (a0 : Nat) (σ : rc_S) : Option (Int32 × rc_S) :=
  rc_bd (f_X1_copy rf (rf a0 3) (rf a0 1) σ) fun _ σ_1 =>
  rc_lt (rc_up σ_1 a0 4 (1 : Int32)) fun σ_2 =>
  some ((σ_2 (rf a0 1) 2), σ_2)
def f_X8_restore (rf : rc_F) (a0 : Nat) (σ : rc_S) : Option (Nat × Int32 × rc_S) :=
  if (σ a0 4) = 0 then
    some (5, (0 : Int32), σ)
  else
    rc_bd (f_X1_copy rf (rf a0 1) (rf a0 3) σ) fun _ σ_1 =>
    rc_bd (f_X2_forget rf (rf a0 5) σ_1) fun _ σ_2 =>
    some (0, (σ_2 (rf a0 1) 2), σ_2)
def f_X8_unnoticed (rf : rc_F) (a0 : Nat) (u1 : Int32) (σ : rc_S) : Option (Nat × Nat × rc_S) :=
  rc_bx (f_X8_filled rf a0 u1 σ) 0 fun w_1 σ_1 =>
  rc_bd (f_X0_hailPart rf w_1 σ_1) fun w_2 σ_2 =>
  rc_bd (f_X3_thoseWhoNotice rf (rf (rf a0 1) 3) w_2 σ_2) fun w_3 σ_3 =>
  if w_3 = 0 then
    some (0, w_1, σ_3)
  else
    some (4, 0, σ_3)
def f_X0_noteAtAge (rf : rc_F) (a0 : Nat) (u1 : Int32) (σ : rc_S) : Option (Int32 × rc_S) :=
  rc_bd (f_X0_noteOfTaste rf a0 (if (9 : Int32) < ((σ a0 5) + (u1 / (2 : Int32))) then (9 : Int32) else ((σ a0 5) + (u1 / (2 : Int32)))) σ) fun w_1 σ_1 =>
  some (w_1, σ_1)
def f_X0_noteYearByYear_7 (rf : rc_F) (a0 : Nat) (v1 : Int32) (K : Int32 → Int32 → rc_S → Option (Int32 × rc_S)) : Nat → Int32 → Int32 → rc_S → Option (Int32 × rc_S)
  | 0, _, _, _ => none
  | n + 1, v2, v3, σ =>
    if v1 < v3 then
      K v2 v3 σ
    else
      if (v3 - v3 / (2 : Int32) * (2 : Int32)) = 0 then
        if (9 : Int32) ≤ v2 then
          rc_lt (v3 + 1) fun v3_3 =>
          f_X0_noteYearByYear_7 rf a0 v1 K n v2 v3_3 σ
        else
          rc_lt (v2 + 1) fun v2_4 =>
          rc_lt (v3 + 1) fun v3_5 =>
          f_X0_noteYearByYear_7 rf a0 v1 K n v2_4 v3_5 σ
      else
        rc_lt (v3 + 1) fun v3_2 =>
        f_X0_noteYearByYear_7 rf a0 v1 K n v2 v3_2 σ
def f_X0_noteYearByYear (rf : rc_F) (a0 : Nat) (u1 : Int32) (σ : rc_S) : Option (Int32 × rc_S) :=
  rc_lt (σ a0 5) fun v2_1 =>
  f_X0_noteYearByYear_7 rf a0 u1 (fun v2_9 v3_10 σ_11 =>
    rc_bd (f_X0_noteOfTaste rf a0 v2_9 σ_11) fun w_12 σ_12 =>
    some (w_12, σ_12)
  ) rc_fu v2_1 (1 : Int32) σ
def f_X0_takeOut (rf : rc_F) (a0 : Nat) (u1 : Int32) (σ : rc_S) : Option (Int32 × rc_S) :=
  rc_bd (f_X0_hailIn rf a0 u1 σ) fun w_1 σ_1 =>
  rc_lt (rc_up σ_1 a0 1 ((σ_1 a0 1) - u1)) fun σ_2 =>
  rc_lt (rc_up σ_2 a0 2 ((σ_2 a0 2) - w_1)) fun σ_3 =>
  if (σ_3 a0 1) = 0 then
    rc_bd (f_X0_makeEmpty rf a0 σ_3) fun _ σ_4 =>
    some (w_1, σ_4)
  else
    some (w_1, σ_3)
def f_X1_noteOf (rf : rc_F) (a0 : Nat) (q1 : Nat) (σ : rc_S) : Option (Int32 × rc_S) :=
  rc_bd (f_X0_ageIn rf q1 (σ a0 7) σ) fun w_1 σ_1 =>
  rc_bd (f_X0_noteAtAge rf q1 w_1 σ_1) fun w_2 σ_2 =>
  some (w_2, σ_2)
set_option maxHeartbeats 4000000 in
set_option maxRecDepth 100000 in
theorem k_X8_leave (l : Launch) (hl9 : l.stackTraces = false) {Y : rc_Y} {sh : Nat → Nat} {rf : rc_F} (hT : rc_T Y sh rf) (a0 : Nat) (u1 : Int32) (h0 : sh a0 = 9) (sz : Nat) (σ σ' : rc_S) (k : Nat) (r : Int32) (hm : f_X8_leave rf a0 u1 σ = some (k, r, σ')) : vx_Met l yX8_leave (Cond.code yX8_leave cX8_leave 2 (some .int) :: rc_big) ({ frames := 7, cells := 1, slots := 6, locals := 102 } : Room) (rc_P Y sh rf σ sz [.ref a0, .int u1]) (va_Qi (fun (r' : Int32) (_ : Unit) => k = 0 ∧ r' = r) (fun _ t => rc_W Y sh rf σ' t.heap) (rc_A sh sz)) (rc_XC Y sh rf σ' k sz) 1 6 (rc_A sh sz) := by
  refine vx_ofW (cc := cX8_leave) (maxL := 2) (ret := (some .int)) (by decide +kernel) rfl ?_
  intro p e s m args below meth c s₁ B hml hout hv
  obtain ⟨rfl, hsz, hW, hK, hE⟩ := hv
  have hx := B.exec
  have hb := B.bytes
  have hr := B.returns
  have hts : ∀ w ∈ rc_big, w.before _ s = true := fun w h => atoms_spec (ws := Cond.code yX8_leave cX8_leave 2 (some .int) :: rc_big) B.pre w (List.mem_cons_of_mem _ h)
  have hown : s.vm.findClass RX8 = some m.cls := findClass_of_methodNamed B.named
  have hlocks := B.notSynchronized
  clear B
  subst hsz
  have hS : va_S (rc_A sh s.heap.size) s.heap s.heap [] := va_S.rf
  have hl := lv_entry ([.ref a0, .int u1]) (n := 2) (Nat.le_of_ble_eq_true rfl)
  rw [lg_entry_eq]
  generalize (lg_sl ([.ref a0, .int u1]) ++ List.replicate (2 - (lg_sl ([.ref a0, .int u1])).length) Slot.unset).toArray = ls at hl ⊢
  have hl : lv_has ls 2 [(0, .ref a0), (1, .int u1)] := hl
  unfold f_X8_leave at hm
  refine lv_aload_n hx hb dX8_leave_0 rfl (lv_at hl 0 rfl) ?_
  refine rg_9_5 hx hb hts hown hK hW h0 tw_2_87 dX8_leave_1 ?_
  refine lv_aload_n hx hb dX8_leave_4 rfl (lv_at hl 0 rfl) ?_
  refine rg_9_1 hx hb hts hown hK hW h0 tw_2_83 dX8_leave_5 ?_
  obtain ⟨w_1, σ_1, hc_1, hm0⟩ := rc_bd_inv hm
  clear hm
  refine rc_cv hS (va_runV (As := [.ref (rf a0 1)]) (rest := []) ⟨hx, hb, hml, hown, hts⟩ (k_X2_setAside l hT (rf a0 5) (rf a0 1) (rc_t_9_5 hT h0) (rc_t_9_1 hT h0) s.heap.size _ _ _ hc_1) (cwV 1 hts (rc_gV tw_3_140 tw_3_141 tw_3_142 tw_1_8 tw_3_143) rfl rfl rfl (by decide +kernel) ⟨Nat.le_of_ble_eq_true rfl, Nat.le_of_ble_eq_true rfl⟩) (rc_preV hT hW hK hE hS (rc_t_9_5 hT h0) (by decide) rfl (q := (RX2, TX2, 3)) rfl [.ref (rf a0 1)]) rfl rfl hl.1 rfl (lv_room (Nat.le_of_ble_eq_true rfl)) dX8_leave_8 ⟨Nat.le_of_ble_eq_true rfl, Nat.le_of_ble_eq_true rfl⟩) (fun H locs hW hS => ?_)
  have hm := hm0
  clear hm0 hc_1
  refine lv_aload_n hx hb dX8_leave_11 rfl (lv_at hl 0 rfl) ?_
  refine lv_aload_n hx hb dX8_leave_12 rfl (lv_at hl 0 rfl) ?_
  refine rg_9_0 hx hb hts hown hK hW h0 tw_2_82 dX8_leave_13 ?_
  refine lv_iload_n hx hb dX8_leave_16 rfl (lv_at hl 1 rfl) ?_
  obtain ⟨w_2, σ_2, hc_2, hm0⟩ := rc_bd_inv hm
  clear hm
  refine rc_ci hS (va_runV (As := [.int u1]) (rest := [.ref a0]) ⟨hx, hb, hml, hown, hts⟩ (k_X7_letLeave l hT (rf a0 0) u1 (rc_t_9_0 hT h0) H.size _ _ _ hc_2) (cwV 1 hts (rc_gV tw_4_36 tw_4_37 tw_4_38 tw_1_2 tw_4_39) rfl rfl rfl (by decide +kernel) ⟨Nat.le_of_ble_eq_true rfl, Nat.le_of_ble_eq_true rfl⟩) (rc_preV hT hW hK hE hS (rc_t_9_0 hT h0) (by decide) rfl (q := (RX7, TX7, 2)) rfl [.int u1]) rfl rfl hl.1 rfl (lv_room (Nat.le_of_ble_eq_true rfl)) dX8_leave_17 ⟨Nat.le_of_ble_eq_true rfl, Nat.le_of_ble_eq_true rfl⟩) (fun H locs hW hS => ?_)
  have hm := hm0
  clear hm0 hc_2
  obtain ⟨k_3, w_3, σ_3, hc_3, hm0, hk_3⟩ := rc_bx_inv hm
  clear hm
  refine rc_xci hout hlocks hS hk_3 (Nat.le_of_ble_eq_true rfl) (Nat.le_of_ble_eq_true rfl) (vx_runV (As := [.int w_2]) (rest := []) ⟨hx, hb, hml, hown, hts⟩ (k_X8_kept l hl9 hT a0 w_2 h0 H.size _ _ _ _ hc_3) (cwV 1 hts (rc_gV tw_3_192 tw_3_194 tw_p_6 tw_1_1 tw_3_195) rfl rfl rfl (by decide +kernel) ⟨Nat.le_of_ble_eq_true rfl, Nat.le_of_ble_eq_true rfl⟩) (rc_preV hT hW hK hE hS h0 (by decide) rfl (q := (RX8, TX8, 9)) rfl [.int w_2]) rfl rfl hl.1 rfl (lv_room (Nat.le_of_ble_eq_true rfl)) dX8_leave_20 ⟨Nat.le_of_ble_eq_true rfl, Nat.le_of_ble_eq_true rfl⟩) (fun H locs h0_3 hW hS => ?_)
  have hm := hm0 h0_3
  clear hm0 hc_3 hk_3
  exact rc_xiret hx hb hr hlocks hW hS (Nat.le_of_ble_eq_true rfl) (Nat.le_of_ble_eq_true rfl) hm dX8_leave_23
set_option maxHeartbeats 4000000 in
set_option maxRecDepth 100000 in
theorem k_X8_clear (l : Launch) (hl9 : l.stackTraces = false) {Y : rc_Y} {sh : Nat → Nat} {rf : rc_F} (hT : rc_T Y sh rf) (a0 : Nat) (u1 : Int32) (h0 : sh a0 = 9) (sz : Nat) (σ σ' : rc_S) (k : Nat) (r : Int32) (hm : f_X8_clear rf a0 u1 σ = some (k, r, σ')) : vx_Met l yX8_clear (Cond.code yX8_clear cX8_clear 2 (some .int) :: rc_big) ({ frames := 7, cells := 1, slots := 6, locals := 102 } : Room) (rc_P Y sh rf σ sz [.ref a0, .int u1]) (va_Qi (fun (r' : Int32) (_ : Unit) => k = 0 ∧ r' = r) (fun _ t => rc_W Y sh rf σ' t.heap) (rc_A sh sz)) (rc_XC Y sh rf σ' k sz) 1 6 (rc_A sh sz) := by
  refine vx_ofW (cc := cX8_clear) (maxL := 2) (ret := (some .int)) (by decide +kernel) rfl ?_
  intro p e s m args below meth c s₁ B hml hout hv
  obtain ⟨rfl, hsz, hW, hK, hE⟩ := hv
  have hx := B.exec
  have hb := B.bytes
  have hr := B.returns
  have hts : ∀ w ∈ rc_big, w.before _ s = true := fun w h => atoms_spec (ws := Cond.code yX8_clear cX8_clear 2 (some .int) :: rc_big) B.pre w (List.mem_cons_of_mem _ h)
  have hown : s.vm.findClass RX8 = some m.cls := findClass_of_methodNamed B.named
  have hlocks := B.notSynchronized
  clear B
  subst hsz
  have hS : va_S (rc_A sh s.heap.size) s.heap s.heap [] := va_S.rf
  have hl := lv_entry ([.ref a0, .int u1]) (n := 2) (Nat.le_of_ble_eq_true rfl)
  rw [lg_entry_eq]
  generalize (lg_sl ([.ref a0, .int u1]) ++ List.replicate (2 - (lg_sl ([.ref a0, .int u1])).length) Slot.unset).toArray = ls at hl ⊢
  have hl : lv_has ls 2 [(0, .ref a0), (1, .int u1)] := hl
  unfold f_X8_clear at hm
  refine lv_aload_n hx hb dX8_clear_0 rfl (lv_at hl 0 rfl) ?_
  refine rg_9_5 hx hb hts hown hK hW h0 tw_2_87 dX8_clear_1 ?_
  refine lv_aload_n hx hb dX8_clear_4 rfl (lv_at hl 0 rfl) ?_
  refine rg_9_1 hx hb hts hown hK hW h0 tw_2_83 dX8_clear_5 ?_
  obtain ⟨w_1, σ_1, hc_1, hm0⟩ := rc_bd_inv hm
  clear hm
  refine rc_cv hS (va_runV (As := [.ref (rf a0 1)]) (rest := []) ⟨hx, hb, hml, hown, hts⟩ (k_X2_setAside l hT (rf a0 5) (rf a0 1) (rc_t_9_5 hT h0) (rc_t_9_1 hT h0) s.heap.size _ _ _ hc_1) (cwV 1 hts (rc_gV tw_3_140 tw_3_141 tw_3_142 tw_1_8 tw_3_143) rfl rfl rfl (by decide +kernel) ⟨Nat.le_of_ble_eq_true rfl, Nat.le_of_ble_eq_true rfl⟩) (rc_preV hT hW hK hE hS (rc_t_9_5 hT h0) (by decide) rfl (q := (RX2, TX2, 3)) rfl [.ref (rf a0 1)]) rfl rfl hl.1 rfl (lv_room (Nat.le_of_ble_eq_true rfl)) dX8_clear_8 ⟨Nat.le_of_ble_eq_true rfl, Nat.le_of_ble_eq_true rfl⟩) (fun H locs hW hS => ?_)
  have hm := hm0
  clear hm0 hc_1
  refine lv_aload_n hx hb dX8_clear_11 rfl (lv_at hl 0 rfl) ?_
  refine lv_aload_n hx hb dX8_clear_12 rfl (lv_at hl 0 rfl) ?_
  refine rg_9_0 hx hb hts hown hK hW h0 tw_2_82 dX8_clear_13 ?_
  refine lv_iload_n hx hb dX8_clear_16 rfl (lv_at hl 1 rfl) ?_
  obtain ⟨w_2, σ_2, hc_2, hm0⟩ := rc_bd_inv hm
  clear hm
  refine rc_ci hS (va_runV (As := [.int u1]) (rest := [.ref a0]) ⟨hx, hb, hml, hown, hts⟩ (k_X7_clearRoof l hT (rf a0 0) u1 (rc_t_9_0 hT h0) H.size _ _ _ hc_2) (cwV 1 hts (rc_gV tw_4_55 tw_4_56 tw_4_57 tw_1_2 tw_4_58) rfl rfl rfl (by decide +kernel) ⟨Nat.le_of_ble_eq_true rfl, Nat.le_of_ble_eq_true rfl⟩) (rc_preV hT hW hK hE hS (rc_t_9_0 hT h0) (by decide) rfl (q := (RX7, TX7, 2)) rfl [.int u1]) rfl rfl hl.1 rfl (lv_room (Nat.le_of_ble_eq_true rfl)) dX8_clear_17 ⟨Nat.le_of_ble_eq_true rfl, Nat.le_of_ble_eq_true rfl⟩) (fun H locs hW hS => ?_)
  have hm := hm0
  clear hm0 hc_2
  obtain ⟨k_3, w_3, σ_3, hc_3, hm0, hk_3⟩ := rc_bx_inv hm
  clear hm
  refine rc_xci hout hlocks hS hk_3 (Nat.le_of_ble_eq_true rfl) (Nat.le_of_ble_eq_true rfl) (vx_runV (As := [.int w_2]) (rest := []) ⟨hx, hb, hml, hown, hts⟩ (k_X8_kept l hl9 hT a0 w_2 h0 H.size _ _ _ _ hc_3) (cwV 1 hts (rc_gV tw_3_192 tw_3_194 tw_p_6 tw_1_1 tw_3_195) rfl rfl rfl (by decide +kernel) ⟨Nat.le_of_ble_eq_true rfl, Nat.le_of_ble_eq_true rfl⟩) (rc_preV hT hW hK hE hS h0 (by decide) rfl (q := (RX8, TX8, 9)) rfl [.int w_2]) rfl rfl hl.1 rfl (lv_room (Nat.le_of_ble_eq_true rfl)) dX8_clear_20 ⟨Nat.le_of_ble_eq_true rfl, Nat.le_of_ble_eq_true rfl⟩) (fun H locs h0_3 hW hS => ?_)
  have hm := hm0 h0_3
  clear hm0 hc_3 hk_3
  exact rc_xiret hx hb hr hlocks hW hS (Nat.le_of_ble_eq_true rfl) (Nat.le_of_ble_eq_true rfl) hm dX8_clear_23
set_option maxHeartbeats 4000000 in
set_option maxRecDepth 100000 in
theorem k_X8_year (l : Launch) {Y : rc_Y} {sh : Nat → Nat} {rf : rc_F} (hT : rc_T Y sh rf) (a0 : Nat) (h0 : sh a0 = 9) (sz : Nat) (σ σ' : rc_S) (r : Int32) (hm : f_X8_year rf a0 σ = some (r, σ')) : Met l yX8_year (Cond.code yX8_year cX8_year 2 (some .int) :: rc_big) ({ frames := 4, cells := 0, slots := 0, locals := 85 } : Room) (rc_P Y sh rf σ sz [.ref a0]) (va_Qi (fun (r' : Int32) (_ : Unit) => r' = r) (fun _ t => rc_W Y sh rf σ' t.heap) (rc_A sh sz)) 0 0 (rc_A sh sz) := by
  refine Met.ofW (cc := cX8_year) (maxL := 2) (ret := (some .int)) (by decide +kernel) rfl ?_
  intro p e s m args below meth c s₁ B hml hv
  obtain ⟨rfl, hsz, hW, hK, hE⟩ := hv
  have hx := B.exec
  have hb := B.bytes
  have hr := B.returns
  have hts : ∀ w ∈ rc_big, w.before _ s = true := fun w h => atoms_spec (ws := Cond.code yX8_year cX8_year 2 (some .int) :: rc_big) B.pre w (List.mem_cons_of_mem _ h)
  have hown : s.vm.findClass RX8 = some m.cls := findClass_of_methodNamed B.named
  have hlocks := B.notSynchronized
  clear B
  subst hsz
  have hS : va_S (rc_A sh s.heap.size) s.heap s.heap [] := va_S.rf
  have hl := lv_entry ([.ref a0]) (n := 2) (Nat.le_of_ble_eq_true rfl)
  rw [lg_entry_eq]
  generalize (lg_sl ([.ref a0]) ++ List.replicate (2 - (lg_sl ([.ref a0])).length) Slot.unset).toArray = ls at hl ⊢
  have hl : lv_has ls 2 [(0, .ref a0)] := hl
  unfold f_X8_year at hm
  refine lv_aload_n hx hb dX8_year_0 rfl (lv_at hl 0 rfl) ?_
  refine rg_9_5 hx hb hts hown hK hW h0 tw_2_87 dX8_year_1 ?_
  refine lv_aload_n hx hb dX8_year_4 rfl (lv_at hl 0 rfl) ?_
  refine rg_9_1 hx hb hts hown hK hW h0 tw_2_83 dX8_year_5 ?_
  obtain ⟨w_1, σ_1, hc_1, hm0⟩ := rc_bd_inv hm
  clear hm
  refine rc_cv hS (va_runV (As := [.ref (rf a0 1)]) (rest := []) ⟨hx, hb, hml, hown, hts⟩ (k_X2_setAside l hT (rf a0 5) (rf a0 1) (rc_t_9_5 hT h0) (rc_t_9_1 hT h0) s.heap.size _ _ _ hc_1) (cwV 1 hts (rc_gV tw_3_140 tw_3_141 tw_3_142 tw_1_8 tw_3_143) rfl rfl rfl (by decide +kernel) ⟨Nat.le_of_ble_eq_true rfl, Nat.le_of_ble_eq_true rfl⟩) (rc_preV hT hW hK hE hS (rc_t_9_5 hT h0) (by decide) rfl (q := (RX2, TX2, 3)) rfl [.ref (rf a0 1)]) rfl rfl hl.1 rfl (lv_room (Nat.le_of_ble_eq_true rfl)) dX8_year_8 ⟨Nat.le_of_ble_eq_true rfl, Nat.le_of_ble_eq_true rfl⟩) (fun H locs hW hS => ?_)
  have hm := hm0
  clear hm0 hc_1
  refine lv_aload_n hx hb dX8_year_11 rfl (lv_at hl 0 rfl) ?_
  refine rg_9_0 hx hb hts hown hK hW h0 tw_2_82 dX8_year_12 ?_
  obtain ⟨w_2, σ_2, hc_2, hm0⟩ := rc_bd_inv hm
  clear hm
  refine rc_ci hS (va_runV (As := []) (rest := []) ⟨hx, hb, hml, hown, hts⟩ (k_X7_letYearGoBy l hT (rf a0 0) (rc_t_9_0 hT h0) H.size _ _ _ hc_2) (cwV 0 hts (rc_gV tw_4_10 tw_4_11 tw_4_12 tw_1_2 tw_4_13) rfl rfl rfl (by decide +kernel) ⟨Nat.le_of_ble_eq_true rfl, Nat.le_of_ble_eq_true rfl⟩) (rc_preV hT hW hK hE hS (rc_t_9_0 hT h0) (by decide) rfl (q := (RX7, TX7, 2)) rfl []) rfl rfl hl.1 rfl (lv_room (Nat.le_of_ble_eq_true rfl)) dX8_year_15 ⟨Nat.le_of_ble_eq_true rfl, Nat.le_of_ble_eq_true rfl⟩) (fun H locs hW hS => ?_)
  have hm := hm0
  clear hm0 hc_2
  refine lv_istore_n (lv' := [(1, .int w_2), (0, .ref a0)]) hx hb dX8_year_18 rfl hl (by decide) rfl (fun ls hl => ?_)
  refine lv_aload_n hx hb dX8_year_19 rfl (lv_at hl 1 rfl) ?_
  refine rg_9_5 hx hb hts hown hK hW h0 tw_2_87 dX8_year_20 ?_
  obtain ⟨w_3, σ_3, hc_3, hm0⟩ := rc_bd_inv hm
  clear hm
  refine rc_cv hS (va_runV (As := []) (rest := []) ⟨hx, hb, hml, hown, hts⟩ (k_X2_keepAside l hT (rf a0 5) (rc_t_9_5 hT h0) H.size _ _ _ hc_3) (cwV 0 hts (rc_gV tw_3_211 tw_3_212 tw_3_213 tw_1_8 tw_3_214) rfl rfl rfl (by decide +kernel) ⟨Nat.le_of_ble_eq_true rfl, Nat.le_of_ble_eq_true rfl⟩) (rc_preV hT hW hK hE hS (rc_t_9_5 hT h0) (by decide) rfl (q := (RX2, TX2, 3)) rfl []) rfl rfl hl.1 rfl (lv_room (Nat.le_of_ble_eq_true rfl)) dX8_year_23 ⟨Nat.le_of_ble_eq_true rfl, Nat.le_of_ble_eq_true rfl⟩) (fun H locs hW hS => ?_)
  have hm := hm0
  clear hm0 hc_3
  refine lv_iload_n hx hb dX8_year_26 rfl (lv_at hl 0 rfl) ?_
  exact rc_eiret hx hb hr hlocks hW hS (Nat.le_of_ble_eq_true rfl) (Nat.le_of_ble_eq_true rfl) hm dX8_year_27
set_option maxHeartbeats 4000000 in
set_option maxRecDepth 100000 in
theorem k_X8_roofOf (l : Launch) (hl9 : l.stackTraces = false) {Y : rc_Y} {sh : Nat → Nat} {rf : rc_F} (hT : rc_T Y sh rf) (a0 : Nat) (u1 : Int32) (u2 : Int32) (h0 : sh a0 = 9) (sz : Nat) (σ σ' : rc_S) (k : Nat) (r : Int32) (hm : f_X8_roofOf rf a0 u1 u2 σ = some (k, r, σ')) : vx_Met l yX8_roofOf (Cond.code yX8_roofOf cX8_roofOf 3 (some .int) :: rc_big) ({ frames := 6, cells := 1, slots := 6, locals := 81 } : Room) (rc_P Y sh rf σ sz [.ref a0, .int u1, .int u2]) (va_Qi (fun (r' : Int32) (_ : Unit) => k = 0 ∧ r' = r) (fun _ t => rc_W Y sh rf σ' t.heap) (rc_A sh sz)) (rc_XC Y sh rf σ' k sz) 1 6 (rc_A sh sz) := by
  refine vx_ofW (cc := cX8_roofOf) (maxL := 3) (ret := (some .int)) (by decide +kernel) rfl ?_
  intro p e s m args below meth c s₁ B hml hout hv
  obtain ⟨rfl, hsz, hW, hK, hE⟩ := hv
  have hx := B.exec
  have hb := B.bytes
  have hr := B.returns
  have hts : ∀ w ∈ rc_big, w.before _ s = true := fun w h => atoms_spec (ws := Cond.code yX8_roofOf cX8_roofOf 3 (some .int) :: rc_big) B.pre w (List.mem_cons_of_mem _ h)
  have hown : s.vm.findClass RX8 = some m.cls := findClass_of_methodNamed B.named
  have hlocks := B.notSynchronized
  clear B
  subst hsz
  have hS : va_S (rc_A sh s.heap.size) s.heap s.heap [] := va_S.rf
  have hl := lv_entry ([.ref a0, .int u1, .int u2]) (n := 3) (Nat.le_of_ble_eq_true rfl)
  rw [lg_entry_eq]
  generalize (lg_sl ([.ref a0, .int u1, .int u2]) ++ List.replicate (3 - (lg_sl ([.ref a0, .int u1, .int u2])).length) Slot.unset).toArray = ls at hl ⊢
  have hl : lv_has ls 3 [(0, .ref a0), (1, .int u1), (2, .int u2)] := hl
  unfold f_X8_roofOf at hm
  refine lv_iload_n hx hb dX8_roofOf_0 rfl (lv_at hl 1 rfl) ?_
  refine lv_iconst (v := 0) hx hb dX8_roofOf_1 (by decide) ?_
  refine lv_iconst (v := 3) hx hb dX8_roofOf_2 (by decide) ?_
  obtain ⟨w_1, σ_1, hc_1, hm0⟩ := rc_bd_inv hm
  clear hm
  refine rc_ci hS (va_runS (As := [.int u1, .int (0 : Int32), .int (3 : Int32)]) (rest := []) ⟨hx, hb, hml, hown, hts⟩ (k_X8_isOutside l hT u1 (0 : Int32) (3 : Int32)  s.heap.size _ _ _ hc_1) (va_cwS 3 hts (rc_gS tw_3_76 tw_3_77 tw_1_1 tw_3_78) rfl rfl rfl (by decide +kernel) ⟨Nat.le_of_ble_eq_true rfl, Nat.le_of_ble_eq_true rfl⟩) (rc_preS hT hW hK hE hS [.int u1, .int (0 : Int32), .int (3 : Int32)]) rfl rfl hl.1 rfl (lv_room (Nat.le_of_ble_eq_true rfl)) dX8_roofOf_3 ⟨Nat.le_of_ble_eq_true rfl, Nat.le_of_ble_eq_true rfl⟩) (fun H locs hW hS => ?_)
  have hm := hm0
  clear hm0 hc_1
  refine lv_if_eq (tgt := 17) hx hb dX8_roofOf_6 (by decide) (fun c_10 => ?_) (fun c_10 => ?_)
  · replace hm := rc_t hm c_10
    refine lv_iload_n hx hb dX8_roofOf_17 rfl (lv_at hl 2 rfl) ?_
    by_cases c_2 : u2 = (0 : Int32)
    · replace hm := rc_t hm c_2
      refine lv_tableIn (off := 30) (tgt := 48) hx hb dX8_roofOf_18 (by rw [c_2]; decide) (by rw [c_2]; decide) (by rw [c_2]; decide) (by decide) ?_
      refine lv_aload_n hx hb dX8_roofOf_48 rfl (lv_at hl 0 rfl) ?_
      refine rg_9_1 hx hb hts hown hK hW h0 tw_2_83 dX8_roofOf_49 ?_
      refine rg_2_0 hx hb hts hown hK hW (rc_t_9_1 hT h0) tw_1_142 dX8_roofOf_52 ?_
      refine lv_iload_n hx hb dX8_roofOf_55 rfl (lv_at hl 1 rfl) ?_
      have hi_3 := (rc_ix hm).1
      replace hm := (rc_ix hm).2
      refine rc_ialdj (j := u1.toNatClampNeg) hx hb hK hW (rc_t_2_0 hT (rc_t_9_1 hT h0)) (by decide) rfl hi_3 rfl dX8_roofOf_56 ?_
      exact rc_xiret hx hb hr hlocks hW hS (Nat.le_of_ble_eq_true rfl) (Nat.le_of_ble_eq_true rfl) hm dX8_roofOf_57
    · replace hm := rc_f hm c_2
      by_cases c_4 : u2 = (1 : Int32)
      · replace hm := rc_t hm c_4
        refine lv_tableIn (off := 40) (tgt := 58) hx hb dX8_roofOf_18 (by rw [c_4]; decide) (by rw [c_4]; decide) (by rw [c_4]; decide) (by decide) ?_
        refine lv_aload_n hx hb dX8_roofOf_58 rfl (lv_at hl 0 rfl) ?_
        refine rg_9_1 hx hb hts hown hK hW h0 tw_2_83 dX8_roofOf_59 ?_
        refine lv_iload_n hx hb dX8_roofOf_62 rfl (lv_at hl 1 rfl) ?_
        obtain ⟨w_5, σ_5, hc_5, hm0⟩ := rc_bd_inv hm
        clear hm
        refine rc_ci hS (va_runV (As := [.int u1]) (rest := []) ⟨hx, hb, hml, hown, hts⟩ (k_X1_barrelsUnder l hT (rf a0 1) u1 (rc_t_9_1 hT h0) H.size _ _ _ hc_5) (cwV 1 hts (rc_gV tw_6_36 tw_6_37 tw_6_38 tw_1_3 tw_6_39) rfl rfl rfl (by decide +kernel) ⟨Nat.le_of_ble_eq_true rfl, Nat.le_of_ble_eq_true rfl⟩) (rc_preV hT hW hK hE hS (rc_t_9_1 hT h0) (by decide) rfl (q := (RX1, TX1, 14)) rfl [.int u1]) rfl rfl hl.1 rfl (lv_room (Nat.le_of_ble_eq_true rfl)) dX8_roofOf_63 ⟨Nat.le_of_ble_eq_true rfl, Nat.le_of_ble_eq_true rfl⟩) (fun H locs hW hS => ?_)
        have hm := hm0
        clear hm0 hc_5
        exact rc_xiret hx hb hr hlocks hW hS (Nat.le_of_ble_eq_true rfl) (Nat.le_of_ble_eq_true rfl) hm dX8_roofOf_66
      · replace hm := rc_f hm c_4
        by_cases c_6 : u2 = (2 : Int32)
        · replace hm := rc_t hm c_6
          refine lv_tableIn (off := 49) (tgt := 67) hx hb dX8_roofOf_18 (by rw [c_6]; decide) (by rw [c_6]; decide) (by rw [c_6]; decide) (by decide) ?_
          refine lv_aload_n hx hb dX8_roofOf_67 rfl (lv_at hl 0 rfl) ?_
          refine rg_9_1 hx hb hts hown hK hW h0 tw_2_83 dX8_roofOf_68 ?_
          refine lv_iload_n hx hb dX8_roofOf_71 rfl (lv_at hl 1 rfl) ?_
          obtain ⟨w_7, σ_7, hc_7, hm0⟩ := rc_bd_inv hm
          clear hm
          refine rc_ci hS (va_runV (As := [.int u1]) (rest := []) ⟨hx, hb, hml, hown, hts⟩ (k_X1_emptyUnder l hT (rf a0 1) u1 (rc_t_9_1 hT h0) H.size _ _ _ hc_7) (cwV 1 hts (rc_gV tw_6_40 tw_3_102 tw_3_103 tw_1_3 tw_3_104) rfl rfl rfl (by decide +kernel) ⟨Nat.le_of_ble_eq_true rfl, Nat.le_of_ble_eq_true rfl⟩) (rc_preV hT hW hK hE hS (rc_t_9_1 hT h0) (by decide) rfl (q := (RX1, TX1, 14)) rfl [.int u1]) rfl rfl hl.1 rfl (lv_room (Nat.le_of_ble_eq_true rfl)) dX8_roofOf_72 ⟨Nat.le_of_ble_eq_true rfl, Nat.le_of_ble_eq_true rfl⟩) (fun H locs hW hS => ?_)
          have hm := hm0
          clear hm0 hc_7
          exact rc_xiret hx hb hr hlocks hW hS (Nat.le_of_ble_eq_true rfl) (Nat.le_of_ble_eq_true rfl) hm dX8_roofOf_75
        · replace hm := rc_f hm c_6
          by_cases c_8 : u2 = (3 : Int32)
          · replace hm := rc_t hm c_8
            refine lv_tableIn (off := 58) (tgt := 76) hx hb dX8_roofOf_18 (by rw [c_8]; decide) (by rw [c_8]; decide) (by rw [c_8]; decide) (by decide) ?_
            refine lv_aload_n hx hb dX8_roofOf_76 rfl (lv_at hl 0 rfl) ?_
            refine rg_9_1 hx hb hts hown hK hW h0 tw_2_83 dX8_roofOf_77 ?_
            refine lv_iload_n hx hb dX8_roofOf_80 rfl (lv_at hl 1 rfl) ?_
            obtain ⟨w_9, σ_9, hc_9, hm0⟩ := rc_bd_inv hm
            clear hm
            refine rc_ci hS (va_runV (As := [.int u1]) (rest := []) ⟨hx, hb, hml, hown, hts⟩ (k_X1_litresUnder l hT (rf a0 1) u1 (rc_t_9_1 hT h0) H.size _ _ _ hc_9) (cwV 1 hts (rc_gV tw_6_41 tw_6_42 tw_6_43 tw_1_3 tw_6_44) rfl rfl rfl (by decide +kernel) ⟨Nat.le_of_ble_eq_true rfl, Nat.le_of_ble_eq_true rfl⟩) (rc_preV hT hW hK hE hS (rc_t_9_1 hT h0) (by decide) rfl (q := (RX1, TX1, 14)) rfl [.int u1]) rfl rfl hl.1 rfl (lv_room (Nat.le_of_ble_eq_true rfl)) dX8_roofOf_81 ⟨Nat.le_of_ble_eq_true rfl, Nat.le_of_ble_eq_true rfl⟩) (fun H locs hW hS => ?_)
            have hm := hm0
            clear hm0 hc_9
            exact rc_xiret hx hb hr hlocks hW hS (Nat.le_of_ble_eq_true rfl) (Nat.le_of_ble_eq_true rfl) hm dX8_roofOf_84
          · replace hm := rc_f hm c_8
            refine rc_tblD (tgt := 85) hx hb dX8_roofOf_18 [0, 1, 2, 3] (by decide +kernel) (by decide +kernel) (rc_nk c_2 (by decide) (rc_nk c_4 (by decide) (rc_nk c_6 (by decide) (rc_nk c_8 (by decide) rc_nk0)))) (by decide) ?_
            exact rc_throw (n := 3) hx hb hl9 hT hE hW hS hts hown rfl (by decide) (by decide) rc_hk_3 rc_hi_3 (rc_hat_3 hts hE) rc_hgd_3 (hl.1.trans hml.symm) dX8_roofOf_85 dX8_roofOf_88 dX8_roofOf_89 dX8_roofOf_92 hout ⟨Nat.le_of_ble_eq_true rfl, Nat.le_of_ble_eq_true rfl, Nat.le_of_ble_eq_true rfl, Nat.le_of_ble_eq_true rfl⟩ hlocks (Nat.le_of_ble_eq_true rfl) (Nat.le_of_ble_eq_true rfl) hm
  · replace hm := rc_f hm c_10
    exact rc_throw (n := 2) hx hb hl9 hT hE hW hS hts hown rfl (by decide) (by decide) rc_hk_2 rc_hi_2 (rc_hat_2 hts hE) rc_hgd_2 (hl.1.trans hml.symm) dX8_roofOf_9 dX8_roofOf_12 dX8_roofOf_13 dX8_roofOf_16 hout ⟨Nat.le_of_ble_eq_true rfl, Nat.le_of_ble_eq_true rfl, Nat.le_of_ble_eq_true rfl, Nat.le_of_ble_eq_true rfl⟩ hlocks (Nat.le_of_ble_eq_true rfl) (Nat.le_of_ble_eq_true rfl) hm
set_option maxHeartbeats 4000000 in
set_option maxRecDepth 100000 in
theorem k_X8_barrelOf (l : Launch) (hl9 : l.stackTraces = false) {Y : rc_Y} {sh : Nat → Nat} {rf : rc_F} (hT : rc_T Y sh rf) (a0 : Nat) (u1 : Int32) (u2 : Int32) (h0 : sh a0 = 9) (sz : Nat) (σ σ' : rc_S) (k : Nat) (r : Int32) (hm : f_X8_barrelOf rf a0 u1 u2 σ = some (k, r, σ')) : vx_Met l yX8_barrelOf (Cond.code yX8_barrelOf cX8_barrelOf 4 (some .int) :: rc_big) ({ frames := 7, cells := 2, slots := 12, locals := 102 } : Room) (rc_P Y sh rf σ sz [.ref a0, .int u1, .int u2]) (va_Qi (fun (r' : Int32) (_ : Unit) => k = 0 ∧ r' = r) (fun _ t => rc_W Y sh rf σ' t.heap) (rc_A sh sz)) (rc_XC Y sh rf σ' k sz) 2 12 (rc_A sh sz) := by
  refine vx_ofW (cc := cX8_barrelOf) (maxL := 4) (ret := (some .int)) (by decide +kernel) rfl ?_
  intro p e s m args below meth c s₁ B hml hout hv
  obtain ⟨rfl, hsz, hW, hK, hE⟩ := hv
  have hx := B.exec
  have hb := B.bytes
  have hr := B.returns
  have hts : ∀ w ∈ rc_big, w.before _ s = true := fun w h => atoms_spec (ws := Cond.code yX8_barrelOf cX8_barrelOf 4 (some .int) :: rc_big) B.pre w (List.mem_cons_of_mem _ h)
  have hown : s.vm.findClass RX8 = some m.cls := findClass_of_methodNamed B.named
  have hlocks := B.notSynchronized
  clear B
  subst hsz
  have hS : va_S (rc_A sh s.heap.size) s.heap s.heap [] := va_S.rf
  have hl := lv_entry ([.ref a0, .int u1, .int u2]) (n := 4) (Nat.le_of_ble_eq_true rfl)
  rw [lg_entry_eq]
  generalize (lg_sl ([.ref a0, .int u1, .int u2]) ++ List.replicate (4 - (lg_sl ([.ref a0, .int u1, .int u2])).length) Slot.unset).toArray = ls at hl ⊢
  have hl : lv_has ls 4 [(0, .ref a0), (1, .int u1), (2, .int u2)] := hl
  unfold f_X8_barrelOf at hm
  refine lv_aload_n hx hb dX8_barrelOf_0 rfl (lv_at hl 0 rfl) ?_
  refine lv_iload_n hx hb dX8_barrelOf_1 rfl (lv_at hl 1 rfl) ?_
  obtain ⟨k_1, w_1, σ_1, hc_1, hm0, hk_1⟩ := rc_bx_inv hm
  clear hm
  refine rc_xcr hout hlocks hS hk_1 (Nat.le_of_ble_eq_true rfl) (Nat.le_of_ble_eq_true rfl) (vx_runV (As := [.int u1]) (rest := []) ⟨hx, hb, hml, hown, hts⟩ (k_X8_existing l hl9 hT a0 u1 h0 s.heap.size _ _ _ _ hc_1) (cwV 1 hts (rc_gV tw_2_209 tw_2_211 tw_p_2 tw_1_1 tw_2_212) rfl rfl rfl (by decide +kernel) ⟨Nat.le_of_ble_eq_true rfl, Nat.le_of_ble_eq_true rfl⟩) (rc_preV hT hW hK hE hS h0 (by decide) rfl (q := (RX8, TX8, 9)) rfl [.int u1]) rfl rfl hl.1 rfl (lv_room (Nat.le_of_ble_eq_true rfl)) dX8_barrelOf_2 ⟨Nat.le_of_ble_eq_true rfl, Nat.le_of_ble_eq_true rfl⟩) (fun H locs h0_1 hr_1 hW hS => ?_)
  have hm := hm0 h0_1
  clear hm0 hc_1 hk_1
  refine lv_astore_n (lv' := [(3, .ref w_1), (0, .ref a0), (1, .int u1), (2, .int u2)]) hx hb dX8_barrelOf_5 rfl hl (by decide) rfl (fun ls hl => ?_)
  refine lv_iload_n hx hb dX8_barrelOf_6 rfl (lv_at hl 3 rfl) ?_
  by_cases c_2 : u2 = (0 : Int32)
  · replace hm := rc_t hm c_2
    refine lv_tableIn (off := 41) (tgt := 48) hx hb dX8_barrelOf_7 (by rw [c_2]; decide) (by rw [c_2]; decide) (by rw [c_2]; decide) (by decide) ?_
    refine lv_aload_n hx hb dX8_barrelOf_48 rfl (lv_at hl 0 rfl) ?_
    refine rg_1_0 hx hb hts hown hK hW hr_1 tw_1_88 dX8_barrelOf_49 ?_
    exact rc_xiret hx hb hr hlocks hW hS (Nat.le_of_ble_eq_true rfl) (Nat.le_of_ble_eq_true rfl) hm dX8_barrelOf_52
  · replace hm := rc_f hm c_2
    by_cases c_3 : u2 = (1 : Int32)
    · replace hm := rc_t hm c_3
      refine lv_tableIn (off := 46) (tgt := 53) hx hb dX8_barrelOf_7 (by rw [c_3]; decide) (by rw [c_3]; decide) (by rw [c_3]; decide) (by decide) ?_
      refine lv_aload_n hx hb dX8_barrelOf_53 rfl (lv_at hl 0 rfl) ?_
      refine rg_1_1 hx hb hts hown hK hW hr_1 tw_1_92 dX8_barrelOf_54 ?_
      exact rc_xiret hx hb hr hlocks hW hS (Nat.le_of_ble_eq_true rfl) (Nat.le_of_ble_eq_true rfl) hm dX8_barrelOf_57
    · replace hm := rc_f hm c_3
      by_cases c_4 : u2 = (2 : Int32)
      · replace hm := rc_t hm c_4
        refine lv_tableIn (off := 51) (tgt := 58) hx hb dX8_barrelOf_7 (by rw [c_4]; decide) (by rw [c_4]; decide) (by rw [c_4]; decide) (by decide) ?_
        refine lv_aload_n hx hb dX8_barrelOf_58 rfl (lv_at hl 0 rfl) ?_
        refine rg_1_2 hx hb hts hown hK hW hr_1 tw_1_96 dX8_barrelOf_59 ?_
        exact rc_xiret hx hb hr hlocks hW hS (Nat.le_of_ble_eq_true rfl) (Nat.le_of_ble_eq_true rfl) hm dX8_barrelOf_62
      · replace hm := rc_f hm c_4
        by_cases c_5 : u2 = (3 : Int32)
        · replace hm := rc_t hm c_5
          refine lv_tableIn (off := 56) (tgt := 63) hx hb dX8_barrelOf_7 (by rw [c_5]; decide) (by rw [c_5]; decide) (by rw [c_5]; decide) (by decide) ?_
          refine lv_aload_n hx hb dX8_barrelOf_63 rfl (lv_at hl 0 rfl) ?_
          refine rg_1_3 hx hb hts hown hK hW hr_1 tw_1_100 dX8_barrelOf_64 ?_
          exact rc_xiret hx hb hr hlocks hW hS (Nat.le_of_ble_eq_true rfl) (Nat.le_of_ble_eq_true rfl) hm dX8_barrelOf_67
        · replace hm := rc_f hm c_5
          by_cases c_6 : u2 = (4 : Int32)
          · replace hm := rc_t hm c_6
            refine lv_tableIn (off := 61) (tgt := 68) hx hb dX8_barrelOf_7 (by rw [c_6]; decide) (by rw [c_6]; decide) (by rw [c_6]; decide) (by decide) ?_
            refine lv_aload_n hx hb dX8_barrelOf_68 rfl (lv_at hl 0 rfl) ?_
            refine rg_1_5 hx hb hts hown hK hW hr_1 tw_1_105 dX8_barrelOf_69 ?_
            exact rc_xiret hx hb hr hlocks hW hS (Nat.le_of_ble_eq_true rfl) (Nat.le_of_ble_eq_true rfl) hm dX8_barrelOf_72
          · replace hm := rc_f hm c_6
            by_cases c_7 : u2 = (5 : Int32)
            · replace hm := rc_t hm c_7
              refine lv_tableIn (off := 66) (tgt := 73) hx hb dX8_barrelOf_7 (by rw [c_7]; decide) (by rw [c_7]; decide) (by rw [c_7]; decide) (by decide) ?_
              refine lv_aload_n hx hb dX8_barrelOf_73 rfl (lv_at hl 0 rfl) ?_
              refine lv_aload_n hx hb dX8_barrelOf_74 rfl (lv_at hl 1 rfl) ?_
              refine rg_9_1 hx hb hts hown hK hW h0 tw_2_83 dX8_barrelOf_75 ?_
              refine rg_2_7 hx hb hts hown hK hW (rc_t_9_1 hT h0) tw_1_161 dX8_barrelOf_78 ?_
              obtain ⟨w_8, σ_8, hc_8, hm0⟩ := rc_bd_inv hm
              clear hm
              refine rc_ci hS (va_runV (As := [.int (σ_1 (rf a0 1) 7)]) (rest := []) ⟨hx, hb, hml, hown, hts⟩ (k_X0_ageIn l hT w_1 (σ_1 (rf a0 1) 7) hr_1 H.size _ _ _ hc_8) (cwV 1 hts (rc_gV tw_6_52 tw_3_22 tw_3_23 tw_1_5 tw_3_24) rfl rfl rfl (by decide +kernel) ⟨Nat.le_of_ble_eq_true rfl, Nat.le_of_ble_eq_true rfl⟩) (rc_preV hT hW hK hE hS hr_1 (by decide) rfl (q := (RX0, TX0, 6)) rfl [.int (σ_1 (rf a0 1) 7)]) rfl rfl hl.1 rfl (lv_room (Nat.le_of_ble_eq_true rfl)) dX8_barrelOf_81 ⟨Nat.le_of_ble_eq_true rfl, Nat.le_of_ble_eq_true rfl⟩) (fun H locs hW hS => ?_)
              have hm := hm0
              clear hm0 hc_8
              exact rc_xiret hx hb hr hlocks hW hS (Nat.le_of_ble_eq_true rfl) (Nat.le_of_ble_eq_true rfl) hm dX8_barrelOf_84
            · replace hm := rc_f hm c_7
              by_cases c_9 : u2 = (6 : Int32)
              · replace hm := rc_t hm c_9
                refine lv_tableIn (off := 78) (tgt := 85) hx hb dX8_barrelOf_7 (by rw [c_9]; decide) (by rw [c_9]; decide) (by rw [c_9]; decide) (by decide) ?_
                refine lv_aload_n hx hb dX8_barrelOf_85 rfl (lv_at hl 0 rfl) ?_
                obtain ⟨w_10, σ_10, hc_10, hm0⟩ := rc_bd_inv hm
                clear hm
                refine rc_ci hS (va_runV (As := []) (rest := []) ⟨hx, hb, hml, hown, hts⟩ (k_X0_hailPart l hT w_1 hr_1 H.size _ _ _ hc_10) (cwV 0 hts (rc_gV tw_3_52 tw_3_38 tw_3_39 tw_1_5 tw_3_40) rfl rfl rfl (by decide +kernel) ⟨Nat.le_of_ble_eq_true rfl, Nat.le_of_ble_eq_true rfl⟩) (rc_preV hT hW hK hE hS hr_1 (by decide) rfl (q := (RX0, TX0, 6)) rfl []) rfl rfl hl.1 rfl (lv_room (Nat.le_of_ble_eq_true rfl)) dX8_barrelOf_86 ⟨Nat.le_of_ble_eq_true rfl, Nat.le_of_ble_eq_true rfl⟩) (fun H locs hW hS => ?_)
                have hm := hm0
                clear hm0 hc_10
                exact rc_xiret hx hb hr hlocks hW hS (Nat.le_of_ble_eq_true rfl) (Nat.le_of_ble_eq_true rfl) hm dX8_barrelOf_89
              · replace hm := rc_f hm c_9
                refine rc_tblD (tgt := 90) hx hb dX8_barrelOf_7 [0, 1, 2, 3, 4, 5, 6] (by decide +kernel) (by decide +kernel) (rc_nk c_2 (by decide) (rc_nk c_3 (by decide) (rc_nk c_4 (by decide) (rc_nk c_5 (by decide) (rc_nk c_6 (by decide) (rc_nk c_7 (by decide) (rc_nk c_9 (by decide) rc_nk0))))))) (by decide) ?_
                exact rc_throw (n := 3) hx hb hl9 hT hE hW hS hts hown rfl (by decide) (by decide) rc_hk_3 rc_hi_3 (rc_hat_3 hts hE) rc_hgd_3 (hl.1.trans hml.symm) dX8_barrelOf_90 dX8_barrelOf_93 dX8_barrelOf_94 dX8_barrelOf_97 hout ⟨Nat.le_of_ble_eq_true rfl, Nat.le_of_ble_eq_true rfl, Nat.le_of_ble_eq_true rfl, Nat.le_of_ble_eq_true rfl⟩ hlocks (Nat.le_of_ble_eq_true rfl) (Nat.le_of_ble_eq_true rfl) hm
set_option maxHeartbeats 4000000 in
set_option maxRecDepth 100000 in
theorem k_X8_notices (l : Launch) (hl9 : l.stackTraces = false) {Y : rc_Y} {sh : Nat → Nat} {rf : rc_F} (hT : rc_T Y sh rf) (a0 : Nat) (u1 : Int32) (u2 : Int32) (h0 : sh a0 = 9) (sz : Nat) (σ σ' : rc_S) (k : Nat) (r : Int32) (hm : f_X8_notices rf a0 u1 u2 σ = some (k, r, σ')) : vx_Met l yX8_notices (Cond.code yX8_notices cX8_notices 3 (some .boolean) :: rc_big) ({ frames := 7, cells := 1, slots := 6, locals := 102 } : Room) (rc_P Y sh rf σ sz [.ref a0, .int u1, .int u2]) (va_Qi (fun (r' : Int32) (_ : Unit) => k = 0 ∧ r' = r) (fun _ t => rc_W Y sh rf σ' t.heap) (rc_A sh sz)) (rc_XC Y sh rf σ' k sz) 1 6 (rc_A sh sz) := by
  refine vx_ofW (cc := cX8_notices) (maxL := 3) (ret := (some .boolean)) (by decide +kernel) rfl ?_
  intro p e s m args below meth c s₁ B hml hout hv
  obtain ⟨rfl, hsz, hW, hK, hE⟩ := hv
  have hx := B.exec
  have hb := B.bytes
  have hr := B.returns
  have hts : ∀ w ∈ rc_big, w.before _ s = true := fun w h => atoms_spec (ws := Cond.code yX8_notices cX8_notices 3 (some .boolean) :: rc_big) B.pre w (List.mem_cons_of_mem _ h)
  have hown : s.vm.findClass RX8 = some m.cls := findClass_of_methodNamed B.named
  have hlocks := B.notSynchronized
  clear B
  subst hsz
  have hS : va_S (rc_A sh s.heap.size) s.heap s.heap [] := va_S.rf
  have hl := lv_entry ([.ref a0, .int u1, .int u2]) (n := 3) (Nat.le_of_ble_eq_true rfl)
  rw [lg_entry_eq]
  generalize (lg_sl ([.ref a0, .int u1, .int u2]) ++ List.replicate (3 - (lg_sl ([.ref a0, .int u1, .int u2])).length) Slot.unset).toArray = ls at hl ⊢
  have hl : lv_has ls 3 [(0, .ref a0), (1, .int u1), (2, .int u2)] := hl
  unfold f_X8_notices at hm
  refine lv_aload_n hx hb dX8_notices_0 rfl (lv_at hl 0 rfl) ?_
  refine rg_9_1 hx hb hts hown hK hW h0 tw_2_83 dX8_notices_1 ?_
  refine rg_2_3 hx hb hts hown hK hW (rc_t_9_1 hT h0) tw_1_151 dX8_notices_4 ?_
  refine lv_iload_n hx hb dX8_notices_7 rfl (lv_at hl 1 rfl) ?_
  obtain ⟨w_1, σ_1, hc_1, hm0⟩ := rc_bd_inv hm
  clear hm
  refine rc_ci hS (va_runV (As := [.int u1]) (rest := []) ⟨hx, hb, hml, hown, hts⟩ (k_X3_has l hT (rf (rf a0 1) 3) u1 (rc_t_2_3 hT (rc_t_9_1 hT h0)) s.heap.size _ _ _ hc_1) (cwV 1 hts (rc_gV tw_6_198 tw_4_41 tw_4_42 tw_1_4 tw_4_43) rfl rfl rfl (by decide +kernel) ⟨Nat.le_of_ble_eq_true rfl, Nat.le_of_ble_eq_true rfl⟩) (rc_preV hT hW hK hE hS (rc_t_2_3 hT (rc_t_9_1 hT h0)) (by decide) rfl (q := (RX3, TX3, 3)) rfl [.int u1]) rfl rfl hl.1 rfl (lv_room (Nat.le_of_ble_eq_true rfl)) dX8_notices_8 ⟨Nat.le_of_ble_eq_true rfl, Nat.le_of_ble_eq_true rfl⟩) (fun H locs hW hS => ?_)
  have hm := hm0
  clear hm0 hc_1
  refine lv_if_ne (tgt := 22) hx hb dX8_notices_11 (by decide) (fun c_5 => ?_) (fun c_5 => ?_)
  · replace hm := rc_f hm c_5
    refine lv_aload_n hx hb dX8_notices_22 rfl (lv_at hl 0 rfl) ?_
    refine rg_9_1 hx hb hts hown hK hW h0 tw_2_83 dX8_notices_23 ?_
    refine rg_2_3 hx hb hts hown hK hW (rc_t_9_1 hT h0) tw_1_151 dX8_notices_26 ?_
    refine lv_iload_n hx hb dX8_notices_29 rfl (lv_at hl 1 rfl) ?_
    refine lv_aload_n hx hb dX8_notices_30 rfl (lv_at hl 0 rfl) ?_
    refine lv_iload_n hx hb dX8_notices_31 rfl (lv_at hl 2 rfl) ?_
    obtain ⟨k_2, w_2, σ_2, hc_2, hm0, hk_2⟩ := rc_bx_inv hm
    clear hm
    refine rc_xcr hout hlocks hS hk_2 (Nat.le_of_ble_eq_true rfl) (Nat.le_of_ble_eq_true rfl) (vx_runV (As := [.int u2]) (rest := [.int u1, .ref (rf (rf a0 1) 3)]) ⟨hx, hb, hml, hown, hts⟩ (k_X8_existing l hl9 hT a0 u2 h0 H.size _ _ _ _ hc_2) (cwV 1 hts (rc_gV tw_2_209 tw_2_211 tw_p_2 tw_1_1 tw_2_212) rfl rfl rfl (by decide +kernel) ⟨Nat.le_of_ble_eq_true rfl, Nat.le_of_ble_eq_true rfl⟩) (rc_preV hT hW hK hE hS h0 (by decide) rfl (q := (RX8, TX8, 9)) rfl [.int u2]) rfl rfl hl.1 rfl (lv_room (Nat.le_of_ble_eq_true rfl)) dX8_notices_32 ⟨Nat.le_of_ble_eq_true rfl, Nat.le_of_ble_eq_true rfl⟩) (fun H locs h0_2 hr_2 hW hS => ?_)
    have hm := hm0 h0_2
    clear hm0 hc_2 hk_2
    obtain ⟨w_3, σ_3, hc_3, hm0⟩ := rc_bd_inv hm
    clear hm
    refine rc_ci hS (va_runV (As := []) (rest := [.int u1, .ref (rf (rf a0 1) 3)]) ⟨hx, hb, hml, hown, hts⟩ (k_X0_hailPart l hT w_2 hr_2 H.size _ _ _ hc_3) (cwV 0 hts (rc_gV tw_3_52 tw_3_38 tw_3_39 tw_1_5 tw_3_40) rfl rfl rfl (by decide +kernel) ⟨Nat.le_of_ble_eq_true rfl, Nat.le_of_ble_eq_true rfl⟩) (rc_preV hT hW hK hE hS hr_2 (by decide) rfl (q := (RX0, TX0, 6)) rfl []) rfl rfl hl.1 rfl (lv_room (Nat.le_of_ble_eq_true rfl)) dX8_notices_35 ⟨Nat.le_of_ble_eq_true rfl, Nat.le_of_ble_eq_true rfl⟩) (fun H locs hW hS => ?_)
    have hm := hm0
    clear hm0 hc_3
    obtain ⟨w_4, σ_4, hc_4, hm0⟩ := rc_bd_inv hm
    clear hm
    refine rc_ci hS (va_runV (As := [.int u1, .int w_3]) (rest := []) ⟨hx, hb, hml, hown, hts⟩ (k_X3_doesNotice l hT (rf (rf a0 1) 3) u1 w_3 (rc_t_2_3 hT (rc_t_9_1 hT h0)) H.size _ _ _ hc_4) (cwV 2 hts (rc_gV tw_6_199 tw_3_58 tw_3_59 tw_1_4 tw_3_60) rfl rfl rfl (by decide +kernel) ⟨Nat.le_of_ble_eq_true rfl, Nat.le_of_ble_eq_true rfl⟩) (rc_preV hT hW hK hE hS (rc_t_2_3 hT (rc_t_9_1 hT h0)) (by decide) rfl (q := (RX3, TX3, 3)) rfl [.int u1, .int w_3]) rfl rfl hl.1 rfl (lv_room (Nat.le_of_ble_eq_true rfl)) dX8_notices_38 ⟨Nat.le_of_ble_eq_true rfl, Nat.le_of_ble_eq_true rfl⟩) (fun H locs hW hS => ?_)
    have hm := hm0
    clear hm0 hc_4
    have hn := (rc_dc hm).1
    replace hm := (rc_dc hm).2
    exact rc_xzret hx hb hr hlocks hW hS (Nat.le_of_ble_eq_true rfl) (Nat.le_of_ble_eq_true rfl) (rc_narz hn) hm dX8_notices_41
  · replace hm := rc_t hm c_5
    exact rc_throw (n := 2) hx hb hl9 hT hE hW hS hts hown rfl (by decide) (by decide) rc_hk_2 rc_hi_2 (rc_hat_2 hts hE) rc_hgd_2 (hl.1.trans hml.symm) dX8_notices_14 dX8_notices_17 dX8_notices_18 dX8_notices_21 hout ⟨Nat.le_of_ble_eq_true rfl, Nat.le_of_ble_eq_true rfl, Nat.le_of_ble_eq_true rfl, Nat.le_of_ble_eq_true rfl⟩ hlocks (Nat.le_of_ble_eq_true rfl) (Nat.le_of_ble_eq_true rfl) hm
set_option maxHeartbeats 4000000 in
set_option maxRecDepth 100000 in
theorem k_X8_noticing (l : Launch) (hl9 : l.stackTraces = false) {Y : rc_Y} {sh : Nat → Nat} {rf : rc_F} (hT : rc_T Y sh rf) (a0 : Nat) (u1 : Int32) (h0 : sh a0 = 9) (sz : Nat) (σ σ' : rc_S) (k : Nat) (r : Int32) (hm : f_X8_noticing rf a0 u1 σ = some (k, r, σ')) : vx_Met l yX8_noticing (Cond.code yX8_noticing cX8_noticing 2 (some .int) :: rc_big) ({ frames := 7, cells := 1, slots := 6, locals := 102 } : Room) (rc_P Y sh rf σ sz [.ref a0, .int u1]) (va_Qi (fun (r' : Int32) (_ : Unit) => k = 0 ∧ r' = r) (fun _ t => rc_W Y sh rf σ' t.heap) (rc_A sh sz)) (rc_XC Y sh rf σ' k sz) 1 6 (rc_A sh sz) := by
  refine vx_ofW (cc := cX8_noticing) (maxL := 2) (ret := (some .int)) (by decide +kernel) rfl ?_
  intro p e s m args below meth c s₁ B hml hout hv
  obtain ⟨rfl, hsz, hW, hK, hE⟩ := hv
  have hx := B.exec
  have hb := B.bytes
  have hr := B.returns
  have hts : ∀ w ∈ rc_big, w.before _ s = true := fun w h => atoms_spec (ws := Cond.code yX8_noticing cX8_noticing 2 (some .int) :: rc_big) B.pre w (List.mem_cons_of_mem _ h)
  have hown : s.vm.findClass RX8 = some m.cls := findClass_of_methodNamed B.named
  have hlocks := B.notSynchronized
  clear B
  subst hsz
  have hS : va_S (rc_A sh s.heap.size) s.heap s.heap [] := va_S.rf
  have hl := lv_entry ([.ref a0, .int u1]) (n := 2) (Nat.le_of_ble_eq_true rfl)
  rw [lg_entry_eq]
  generalize (lg_sl ([.ref a0, .int u1]) ++ List.replicate (2 - (lg_sl ([.ref a0, .int u1])).length) Slot.unset).toArray = ls at hl ⊢
  have hl : lv_has ls 2 [(0, .ref a0), (1, .int u1)] := hl
  unfold f_X8_noticing at hm
  refine lv_aload_n hx hb dX8_noticing_0 rfl (lv_at hl 0 rfl) ?_
  refine rg_9_1 hx hb hts hown hK hW h0 tw_2_83 dX8_noticing_1 ?_
  refine rg_2_3 hx hb hts hown hK hW (rc_t_9_1 hT h0) tw_1_151 dX8_noticing_4 ?_
  refine lv_aload_n hx hb dX8_noticing_7 rfl (lv_at hl 0 rfl) ?_
  refine lv_iload_n hx hb dX8_noticing_8 rfl (lv_at hl 1 rfl) ?_
  obtain ⟨k_1, w_1, σ_1, hc_1, hm0, hk_1⟩ := rc_bx_inv hm
  clear hm
  refine rc_xcr hout hlocks hS hk_1 (Nat.le_of_ble_eq_true rfl) (Nat.le_of_ble_eq_true rfl) (vx_runV (As := [.int u1]) (rest := [.ref (rf (rf a0 1) 3)]) ⟨hx, hb, hml, hown, hts⟩ (k_X8_existing l hl9 hT a0 u1 h0 s.heap.size _ _ _ _ hc_1) (cwV 1 hts (rc_gV tw_2_209 tw_2_211 tw_p_2 tw_1_1 tw_2_212) rfl rfl rfl (by decide +kernel) ⟨Nat.le_of_ble_eq_true rfl, Nat.le_of_ble_eq_true rfl⟩) (rc_preV hT hW hK hE hS h0 (by decide) rfl (q := (RX8, TX8, 9)) rfl [.int u1]) rfl rfl hl.1 rfl (lv_room (Nat.le_of_ble_eq_true rfl)) dX8_noticing_9 ⟨Nat.le_of_ble_eq_true rfl, Nat.le_of_ble_eq_true rfl⟩) (fun H locs h0_1 hr_1 hW hS => ?_)
  have hm := hm0 h0_1
  clear hm0 hc_1 hk_1
  obtain ⟨w_2, σ_2, hc_2, hm0⟩ := rc_bd_inv hm
  clear hm
  refine rc_ci hS (va_runV (As := []) (rest := [.ref (rf (rf a0 1) 3)]) ⟨hx, hb, hml, hown, hts⟩ (k_X0_hailPart l hT w_1 hr_1 H.size _ _ _ hc_2) (cwV 0 hts (rc_gV tw_3_52 tw_3_38 tw_3_39 tw_1_5 tw_3_40) rfl rfl rfl (by decide +kernel) ⟨Nat.le_of_ble_eq_true rfl, Nat.le_of_ble_eq_true rfl⟩) (rc_preV hT hW hK hE hS hr_1 (by decide) rfl (q := (RX0, TX0, 6)) rfl []) rfl rfl hl.1 rfl (lv_room (Nat.le_of_ble_eq_true rfl)) dX8_noticing_12 ⟨Nat.le_of_ble_eq_true rfl, Nat.le_of_ble_eq_true rfl⟩) (fun H locs hW hS => ?_)
  have hm := hm0
  clear hm0 hc_2
  obtain ⟨w_3, σ_3, hc_3, hm0⟩ := rc_bd_inv hm
  clear hm
  refine rc_ci hS (va_runV (As := [.int w_2]) (rest := []) ⟨hx, hb, hml, hown, hts⟩ (k_X3_thoseWhoNotice l hT (rf (rf a0 1) 3) w_2 (rc_t_2_3 hT (rc_t_9_1 hT h0)) H.size _ _ _ hc_3) (cwV 1 hts (rc_gV tw_3_53 tw_3_54 tw_3_55 tw_1_4 tw_3_56) rfl rfl rfl (by decide +kernel) ⟨Nat.le_of_ble_eq_true rfl, Nat.le_of_ble_eq_true rfl⟩) (rc_preV hT hW hK hE hS (rc_t_2_3 hT (rc_t_9_1 hT h0)) (by decide) rfl (q := (RX3, TX3, 3)) rfl [.int w_2]) rfl rfl hl.1 rfl (lv_room (Nat.le_of_ble_eq_true rfl)) dX8_noticing_15 ⟨Nat.le_of_ble_eq_true rfl, Nat.le_of_ble_eq_true rfl⟩) (fun H locs hW hS => ?_)
  have hm := hm0
  clear hm0 hc_3
  exact rc_xiret hx hb hr hlocks hW hS (Nat.le_of_ble_eq_true rfl) (Nat.le_of_ble_eq_true rfl) hm dX8_noticing_18
set_option maxHeartbeats 4000000 in
set_option maxRecDepth 100000 in
theorem k_X8_wouldCatch (l : Launch) (hl9 : l.stackTraces = false) {Y : rc_Y} {sh : Nat → Nat} {rf : rc_F} (hT : rc_T Y sh rf) (a0 : Nat) (u1 : Int32) (h0 : sh a0 = 9) (sz : Nat) (σ σ' : rc_S) (k : Nat) (r : Int32) (hm : f_X8_wouldCatch rf a0 u1 σ = some (k, r, σ')) : vx_Met l yX8_wouldCatch (Cond.code yX8_wouldCatch cX8_wouldCatch 2 (some .int) :: rc_big) ({ frames := 6, cells := 1, slots := 6, locals := 81 } : Room) (rc_P Y sh rf σ sz [.ref a0, .int u1]) (va_Qi (fun (r' : Int32) (_ : Unit) => k = 0 ∧ r' = r) (fun _ t => rc_W Y sh rf σ' t.heap) (rc_A sh sz)) (rc_XC Y sh rf σ' k sz) 1 6 (rc_A sh sz) := by
  refine vx_ofW (cc := cX8_wouldCatch) (maxL := 2) (ret := (some .int)) (by decide +kernel) rfl ?_
  intro p e s m args below meth c s₁ B hml hout hv
  obtain ⟨rfl, hsz, hW, hK, hE⟩ := hv
  have hx := B.exec
  have hb := B.bytes
  have hr := B.returns
  have hts : ∀ w ∈ rc_big, w.before _ s = true := fun w h => atoms_spec (ws := Cond.code yX8_wouldCatch cX8_wouldCatch 2 (some .int) :: rc_big) B.pre w (List.mem_cons_of_mem _ h)
  have hown : s.vm.findClass RX8 = some m.cls := findClass_of_methodNamed B.named
  have hlocks := B.notSynchronized
  clear B
  subst hsz
  have hS : va_S (rc_A sh s.heap.size) s.heap s.heap [] := va_S.rf
  have hl := lv_entry ([.ref a0, .int u1]) (n := 2) (Nat.le_of_ble_eq_true rfl)
  rw [lg_entry_eq]
  generalize (lg_sl ([.ref a0, .int u1]) ++ List.replicate (2 - (lg_sl ([.ref a0, .int u1])).length) Slot.unset).toArray = ls at hl ⊢
  have hl : lv_has ls 2 [(0, .ref a0), (1, .int u1)] := hl
  unfold f_X8_wouldCatch at hm
  refine lv_iload_n hx hb dX8_wouldCatch_0 rfl (lv_at hl 1 rfl) ?_
  refine lv_iconst (v := 1) hx hb dX8_wouldCatch_1 (by decide) ?_
  refine lv_bipush (v := 9) hx hb dX8_wouldCatch_2 (by decide) ?_
  obtain ⟨w_1, σ_1, hc_1, hm0⟩ := rc_bd_inv hm
  clear hm
  refine rc_ci hS (va_runS (As := [.int u1, .int (1 : Int32), .int (9 : Int32)]) (rest := []) ⟨hx, hb, hml, hown, hts⟩ (k_X8_isOutside l hT u1 (1 : Int32) (9 : Int32)  s.heap.size _ _ _ hc_1) (va_cwS 3 hts (rc_gS tw_3_76 tw_3_77 tw_1_1 tw_3_78) rfl rfl rfl (by decide +kernel) ⟨Nat.le_of_ble_eq_true rfl, Nat.le_of_ble_eq_true rfl⟩) (rc_preS hT hW hK hE hS [.int u1, .int (1 : Int32), .int (9 : Int32)]) rfl rfl hl.1 rfl (lv_room (Nat.le_of_ble_eq_true rfl)) dX8_wouldCatch_4 ⟨Nat.le_of_ble_eq_true rfl, Nat.le_of_ble_eq_true rfl⟩) (fun H locs hW hS => ?_)
  have hm := hm0
  clear hm0 hc_1
  refine lv_if_eq (tgt := 18) hx hb dX8_wouldCatch_7 (by decide) (fun c_3 => ?_) (fun c_3 => ?_)
  · replace hm := rc_t hm c_3
    refine lv_aload_n hx hb dX8_wouldCatch_18 rfl (lv_at hl 0 rfl) ?_
    refine rg_9_1 hx hb hts hown hK hW h0 tw_2_83 dX8_wouldCatch_19 ?_
    refine lv_iload_n hx hb dX8_wouldCatch_22 rfl (lv_at hl 1 rfl) ?_
    obtain ⟨w_2, σ_2, hc_2, hm0⟩ := rc_bd_inv hm
    clear hm
    refine rc_ci hS (va_runV (As := [.int u1]) (rest := []) ⟨hx, hb, hml, hown, hts⟩ (k_X1_litresIntoBarrels l hT (rf a0 1) u1 (rc_t_9_1 hT h0) H.size _ _ _ hc_2) (cwV 1 hts (rc_gV tw_3_94 tw_3_95 tw_3_96 tw_1_3 tw_3_97) rfl rfl rfl (by decide +kernel) ⟨Nat.le_of_ble_eq_true rfl, Nat.le_of_ble_eq_true rfl⟩) (rc_preV hT hW hK hE hS (rc_t_9_1 hT h0) (by decide) rfl (q := (RX1, TX1, 14)) rfl [.int u1]) rfl rfl hl.1 rfl (lv_room (Nat.le_of_ble_eq_true rfl)) dX8_wouldCatch_23 ⟨Nat.le_of_ble_eq_true rfl, Nat.le_of_ble_eq_true rfl⟩) (fun H locs hW hS => ?_)
    have hm := hm0
    clear hm0 hc_2
    exact rc_xiret hx hb hr hlocks hW hS (Nat.le_of_ble_eq_true rfl) (Nat.le_of_ble_eq_true rfl) hm dX8_wouldCatch_26
  · replace hm := rc_f hm c_3
    exact rc_throw (n := 3) hx hb hl9 hT hE hW hS hts hown rfl (by decide) (by decide) rc_hk_3 rc_hi_3 (rc_hat_3 hts hE) rc_hgd_3 (hl.1.trans hml.symm) dX8_wouldCatch_10 dX8_wouldCatch_13 dX8_wouldCatch_14 dX8_wouldCatch_17 hout ⟨Nat.le_of_ble_eq_true rfl, Nat.le_of_ble_eq_true rfl, Nat.le_of_ble_eq_true rfl, Nat.le_of_ble_eq_true rfl⟩ hlocks (Nat.le_of_ble_eq_true rfl) (Nat.le_of_ble_eq_true rfl) hm
set_option maxHeartbeats 4000000 in
set_option maxRecDepth 100000 in
theorem k_X8_wouldLose (l : Launch) (hl9 : l.stackTraces = false) {Y : rc_Y} {sh : Nat → Nat} {rf : rc_F} (hT : rc_T Y sh rf) (a0 : Nat) (u1 : Int32) (h0 : sh a0 = 9) (sz : Nat) (σ σ' : rc_S) (k : Nat) (r : Int32) (hm : f_X8_wouldLose rf a0 u1 σ = some (k, r, σ')) : vx_Met l yX8_wouldLose (Cond.code yX8_wouldLose cX8_wouldLose 2 (some .int) :: rc_big) ({ frames := 6, cells := 1, slots := 6, locals := 81 } : Room) (rc_P Y sh rf σ sz [.ref a0, .int u1]) (va_Qi (fun (r' : Int32) (_ : Unit) => k = 0 ∧ r' = r) (fun _ t => rc_W Y sh rf σ' t.heap) (rc_A sh sz)) (rc_XC Y sh rf σ' k sz) 1 6 (rc_A sh sz) := by
  refine vx_ofW (cc := cX8_wouldLose) (maxL := 2) (ret := (some .int)) (by decide +kernel) rfl ?_
  intro p e s m args below meth c s₁ B hml hout hv
  obtain ⟨rfl, hsz, hW, hK, hE⟩ := hv
  have hx := B.exec
  have hb := B.bytes
  have hr := B.returns
  have hts : ∀ w ∈ rc_big, w.before _ s = true := fun w h => atoms_spec (ws := Cond.code yX8_wouldLose cX8_wouldLose 2 (some .int) :: rc_big) B.pre w (List.mem_cons_of_mem _ h)
  have hown : s.vm.findClass RX8 = some m.cls := findClass_of_methodNamed B.named
  have hlocks := B.notSynchronized
  clear B
  subst hsz
  have hS : va_S (rc_A sh s.heap.size) s.heap s.heap [] := va_S.rf
  have hl := lv_entry ([.ref a0, .int u1]) (n := 2) (Nat.le_of_ble_eq_true rfl)
  rw [lg_entry_eq]
  generalize (lg_sl ([.ref a0, .int u1]) ++ List.replicate (2 - (lg_sl ([.ref a0, .int u1])).length) Slot.unset).toArray = ls at hl ⊢
  have hl : lv_has ls 2 [(0, .ref a0), (1, .int u1)] := hl
  unfold f_X8_wouldLose at hm
  refine lv_iload_n hx hb dX8_wouldLose_0 rfl (lv_at hl 1 rfl) ?_
  refine lv_iconst (v := 1) hx hb dX8_wouldLose_1 (by decide) ?_
  refine lv_bipush (v := 9) hx hb dX8_wouldLose_2 (by decide) ?_
  obtain ⟨w_1, σ_1, hc_1, hm0⟩ := rc_bd_inv hm
  clear hm
  refine rc_ci hS (va_runS (As := [.int u1, .int (1 : Int32), .int (9 : Int32)]) (rest := []) ⟨hx, hb, hml, hown, hts⟩ (k_X8_isOutside l hT u1 (1 : Int32) (9 : Int32)  s.heap.size _ _ _ hc_1) (va_cwS 3 hts (rc_gS tw_3_76 tw_3_77 tw_1_1 tw_3_78) rfl rfl rfl (by decide +kernel) ⟨Nat.le_of_ble_eq_true rfl, Nat.le_of_ble_eq_true rfl⟩) (rc_preS hT hW hK hE hS [.int u1, .int (1 : Int32), .int (9 : Int32)]) rfl rfl hl.1 rfl (lv_room (Nat.le_of_ble_eq_true rfl)) dX8_wouldLose_4 ⟨Nat.le_of_ble_eq_true rfl, Nat.le_of_ble_eq_true rfl⟩) (fun H locs hW hS => ?_)
  have hm := hm0
  clear hm0 hc_1
  refine lv_if_eq (tgt := 18) hx hb dX8_wouldLose_7 (by decide) (fun c_4 => ?_) (fun c_4 => ?_)
  · replace hm := rc_t hm c_4
    refine lv_iload_n hx hb dX8_wouldLose_18 rfl (lv_at hl 1 rfl) ?_
    obtain ⟨w_2, σ_2, hc_2, hm0⟩ := rc_bd_inv hm
    clear hm
    refine rc_ci hS (va_runS (As := [.int u1]) (rest := []) ⟨hx, hb, hml, hown, hts⟩ (k_X8_litresOnRoofs l hT u1  H.size _ _ _ hc_2) (va_cwS 1 hts (rc_gS tw_3_114 tw_3_115 tw_1_1 tw_3_116) rfl rfl rfl (by decide +kernel) ⟨Nat.le_of_ble_eq_true rfl, Nat.le_of_ble_eq_true rfl⟩) (rc_preS hT hW hK hE hS [.int u1]) rfl rfl hl.1 rfl (lv_room (Nat.le_of_ble_eq_true rfl)) dX8_wouldLose_19 ⟨Nat.le_of_ble_eq_true rfl, Nat.le_of_ble_eq_true rfl⟩) (fun H locs hW hS => ?_)
    have hm := hm0
    clear hm0 hc_2
    refine lv_aload_n hx hb dX8_wouldLose_22 rfl (lv_at hl 0 rfl) ?_
    refine rg_9_1 hx hb hts hown hK hW h0 tw_2_83 dX8_wouldLose_23 ?_
    refine lv_iload_n hx hb dX8_wouldLose_26 rfl (lv_at hl 1 rfl) ?_
    obtain ⟨w_3, σ_3, hc_3, hm0⟩ := rc_bd_inv hm
    clear hm
    refine rc_ci hS (va_runV (As := [.int u1]) (rest := [.int w_2]) ⟨hx, hb, hml, hown, hts⟩ (k_X1_litresIntoBarrels l hT (rf a0 1) u1 (rc_t_9_1 hT h0) H.size _ _ _ hc_3) (cwV 1 hts (rc_gV tw_3_94 tw_3_95 tw_3_96 tw_1_3 tw_3_97) rfl rfl rfl (by decide +kernel) ⟨Nat.le_of_ble_eq_true rfl, Nat.le_of_ble_eq_true rfl⟩) (rc_preV hT hW hK hE hS (rc_t_9_1 hT h0) (by decide) rfl (q := (RX1, TX1, 14)) rfl [.int u1]) rfl rfl hl.1 rfl (lv_room (Nat.le_of_ble_eq_true rfl)) dX8_wouldLose_27 ⟨Nat.le_of_ble_eq_true rfl, Nat.le_of_ble_eq_true rfl⟩) (fun H locs hW hS => ?_)
    have hm := hm0
    clear hm0 hc_3
    refine lv_isub hx hb dX8_wouldLose_30 ?_
    exact rc_xiret hx hb hr hlocks hW hS (Nat.le_of_ble_eq_true rfl) (Nat.le_of_ble_eq_true rfl) hm dX8_wouldLose_31
  · replace hm := rc_f hm c_4
    exact rc_throw (n := 3) hx hb hl9 hT hE hW hS hts hown rfl (by decide) (by decide) rc_hk_3 rc_hi_3 (rc_hat_3 hts hE) rc_hgd_3 (hl.1.trans hml.symm) dX8_wouldLose_10 dX8_wouldLose_13 dX8_wouldLose_14 dX8_wouldLose_17 hout ⟨Nat.le_of_ble_eq_true rfl, Nat.le_of_ble_eq_true rfl, Nat.le_of_ble_eq_true rfl, Nat.le_of_ble_eq_true rfl⟩ hlocks (Nat.le_of_ble_eq_true rfl) (Nat.le_of_ble_eq_true rfl) hm
set_option maxHeartbeats 4000000 in
set_option maxRecDepth 100000 in
theorem k_X8_vintage (l : Launch) (hl9 : l.stackTraces = false) {Y : rc_Y} {sh : Nat → Nat} {rf : rc_F} (hT : rc_T Y sh rf) (a0 : Nat) (u1 : Int32) (h0 : sh a0 = 9) (sz : Nat) (σ σ' : rc_S) (k : Nat) (r : Int32) (hm : f_X8_vintage rf a0 u1 σ = some (k, r, σ')) : vx_Met l yX8_vintage (Cond.code yX8_vintage cX8_vintage 2 (some .int) :: rc_big) ({ frames := 6, cells := 1, slots := 6, locals := 81 } : Room) (rc_P Y sh rf σ sz [.ref a0, .int u1]) (va_Qi (fun (r' : Int32) (_ : Unit) => k = 0 ∧ r' = r) (fun _ t => rc_W Y sh rf σ' t.heap) (rc_A sh sz)) (rc_XC Y sh rf σ' k sz) 1 6 (rc_A sh sz) := by
  refine vx_ofW (cc := cX8_vintage) (maxL := 2) (ret := (some .int)) (by decide +kernel) rfl ?_
  intro p e s m args below meth c s₁ B hml hout hv
  obtain ⟨rfl, hsz, hW, hK, hE⟩ := hv
  have hx := B.exec
  have hb := B.bytes
  have hr := B.returns
  have hts : ∀ w ∈ rc_big, w.before _ s = true := fun w h => atoms_spec (ws := Cond.code yX8_vintage cX8_vintage 2 (some .int) :: rc_big) B.pre w (List.mem_cons_of_mem _ h)
  have hown : s.vm.findClass RX8 = some m.cls := findClass_of_methodNamed B.named
  have hlocks := B.notSynchronized
  clear B
  subst hsz
  have hS : va_S (rc_A sh s.heap.size) s.heap s.heap [] := va_S.rf
  have hl := lv_entry ([.ref a0, .int u1]) (n := 2) (Nat.le_of_ble_eq_true rfl)
  rw [lg_entry_eq]
  generalize (lg_sl ([.ref a0, .int u1]) ++ List.replicate (2 - (lg_sl ([.ref a0, .int u1])).length) Slot.unset).toArray = ls at hl ⊢
  have hl : lv_has ls 2 [(0, .ref a0), (1, .int u1)] := hl
  unfold f_X8_vintage at hm
  refine lv_iload_n hx hb dX8_vintage_0 rfl (lv_at hl 1 rfl) ?_
  refine lv_iconst (v := 0) hx hb dX8_vintage_1 (by decide) ?_
  refine lv_aload_n hx hb dX8_vintage_2 rfl (lv_at hl 0 rfl) ?_
  refine rg_9_1 hx hb hts hown hK hW h0 tw_2_83 dX8_vintage_3 ?_
  refine rg_2_5 hx hb hts hown hK hW (rc_t_9_1 hT h0) tw_1_155 dX8_vintage_6 ?_
  refine lv_iconst (v := 1) hx hb dX8_vintage_9 (by decide) ?_
  refine lv_isub hx hb dX8_vintage_10 ?_
  obtain ⟨w_1, σ_1, hc_1, hm0⟩ := rc_bd_inv hm
  clear hm
  refine rc_ci hS (va_runS (As := [.int u1, .int (0 : Int32), .int ((σ (rf a0 1) 5) - (1 : Int32))]) (rest := []) ⟨hx, hb, hml, hown, hts⟩ (k_X8_isOutside l hT u1 (0 : Int32) ((σ (rf a0 1) 5) - (1 : Int32))  s.heap.size _ _ _ hc_1) (va_cwS 3 hts (rc_gS tw_3_76 tw_3_77 tw_1_1 tw_3_78) rfl rfl rfl (by decide +kernel) ⟨Nat.le_of_ble_eq_true rfl, Nat.le_of_ble_eq_true rfl⟩) (rc_preS hT hW hK hE hS [.int u1, .int (0 : Int32), .int ((σ (rf a0 1) 5) - (1 : Int32))]) rfl rfl hl.1 rfl (lv_room (Nat.le_of_ble_eq_true rfl)) dX8_vintage_11 ⟨Nat.le_of_ble_eq_true rfl, Nat.le_of_ble_eq_true rfl⟩) (fun H locs hW hS => ?_)
  have hm := hm0
  clear hm0 hc_1
  refine lv_if_eq (tgt := 25) hx hb dX8_vintage_14 (by decide) (fun c_3 => ?_) (fun c_3 => ?_)
  · replace hm := rc_t hm c_3
    refine lv_aload_n hx hb dX8_vintage_25 rfl (lv_at hl 0 rfl) ?_
    refine rg_9_1 hx hb hts hown hK hW h0 tw_2_83 dX8_vintage_26 ?_
    refine lv_iload_n hx hb dX8_vintage_29 rfl (lv_at hl 1 rfl) ?_
    obtain ⟨w_2, σ_2, hc_2, hm0⟩ := rc_bd_inv hm
    clear hm
    refine rc_ci hS (va_runV (As := [.int u1]) (rest := []) ⟨hx, hb, hml, hown, hts⟩ (k_X1_litresOfStorm l hT (rf a0 1) u1 (rc_t_9_1 hT h0) H.size _ _ _ hc_2) (cwV 1 hts (rc_gV tw_7_1 tw_7_2 tw_7_3 tw_1_3 tw_7_4) rfl rfl rfl (by decide +kernel) ⟨Nat.le_of_ble_eq_true rfl, Nat.le_of_ble_eq_true rfl⟩) (rc_preV hT hW hK hE hS (rc_t_9_1 hT h0) (by decide) rfl (q := (RX1, TX1, 14)) rfl [.int u1]) rfl rfl hl.1 rfl (lv_room (Nat.le_of_ble_eq_true rfl)) dX8_vintage_30 ⟨Nat.le_of_ble_eq_true rfl, Nat.le_of_ble_eq_true rfl⟩) (fun H locs hW hS => ?_)
    have hm := hm0
    clear hm0 hc_2
    exact rc_xiret hx hb hr hlocks hW hS (Nat.le_of_ble_eq_true rfl) (Nat.le_of_ble_eq_true rfl) hm dX8_vintage_33
  · replace hm := rc_f hm c_3
    exact rc_throw (n := 4) hx hb hl9 hT hE hW hS hts hown rfl (by decide) (by decide) rc_hk_4 rc_hi_4 (rc_hat_4 hts hE) rc_hgd_4 (hl.1.trans hml.symm) dX8_vintage_17 dX8_vintage_20 dX8_vintage_21 dX8_vintage_24 hout ⟨Nat.le_of_ble_eq_true rfl, Nat.le_of_ble_eq_true rfl, Nat.le_of_ble_eq_true rfl, Nat.le_of_ble_eq_true rfl⟩ hlocks (Nat.le_of_ble_eq_true rfl) (Nat.le_of_ble_eq_true rfl) hm
set_option maxHeartbeats 4000000 in
set_option maxRecDepth 100000 in
theorem k_X8_canPour (l : Launch) (hl9 : l.stackTraces = false) {Y : rc_Y} {sh : Nat → Nat} {rf : rc_F} (hT : rc_T Y sh rf) (a0 : Nat) (u1 : Int32) (u2 : Int32) (h0 : sh a0 = 9) (sz : Nat) (σ σ' : rc_S) (k : Nat) (r : Int32) (hm : f_X8_canPour rf a0 u1 u2 σ = some (k, r, σ')) : vx_Met l yX8_canPour (Cond.code yX8_canPour cX8_canPour 5 (some .boolean) :: rc_big) ({ frames := 7, cells := 2, slots := 12, locals := 102 } : Room) (rc_P Y sh rf σ sz [.ref a0, .int u1, .int u2]) (va_Qi (fun (r' : Int32) (_ : Unit) => k = 0 ∧ r' = r) (fun _ t => rc_W Y sh rf σ' t.heap) (rc_A sh sz)) (rc_XC Y sh rf σ' k sz) 2 12 (rc_A sh sz) := by
  refine vx_ofW (cc := cX8_canPour) (maxL := 5) (ret := (some .boolean)) (by decide +kernel) rfl ?_
  intro p e s m args below meth c s₁ B hml hout hv
  obtain ⟨rfl, hsz, hW, hK, hE⟩ := hv
  have hx := B.exec
  have hb := B.bytes
  have hr := B.returns
  have hts : ∀ w ∈ rc_big, w.before _ s = true := fun w h => atoms_spec (ws := Cond.code yX8_canPour cX8_canPour 5 (some .boolean) :: rc_big) B.pre w (List.mem_cons_of_mem _ h)
  have hown : s.vm.findClass RX8 = some m.cls := findClass_of_methodNamed B.named
  have hlocks := B.notSynchronized
  clear B
  subst hsz
  have hS : va_S (rc_A sh s.heap.size) s.heap s.heap [] := va_S.rf
  have hl := lv_entry ([.ref a0, .int u1, .int u2]) (n := 5) (Nat.le_of_ble_eq_true rfl)
  rw [lg_entry_eq]
  generalize (lg_sl ([.ref a0, .int u1, .int u2]) ++ List.replicate (5 - (lg_sl ([.ref a0, .int u1, .int u2])).length) Slot.unset).toArray = ls at hl ⊢
  have hl : lv_has ls 5 [(0, .ref a0), (1, .int u1), (2, .int u2)] := hl
  unfold f_X8_canPour at hm
  refine lv_aload_n hx hb dX8_canPour_0 rfl (lv_at hl 0 rfl) ?_
  refine lv_iload_n hx hb dX8_canPour_1 rfl (lv_at hl 1 rfl) ?_
  obtain ⟨k_1, w_1, σ_1, hc_1, hm0, hk_1⟩ := rc_bx_inv hm
  clear hm
  refine rc_xcr hout hlocks hS hk_1 (Nat.le_of_ble_eq_true rfl) (Nat.le_of_ble_eq_true rfl) (vx_runV (As := [.int u1]) (rest := []) ⟨hx, hb, hml, hown, hts⟩ (k_X8_existing l hl9 hT a0 u1 h0 s.heap.size _ _ _ _ hc_1) (cwV 1 hts (rc_gV tw_2_209 tw_2_211 tw_p_2 tw_1_1 tw_2_212) rfl rfl rfl (by decide +kernel) ⟨Nat.le_of_ble_eq_true rfl, Nat.le_of_ble_eq_true rfl⟩) (rc_preV hT hW hK hE hS h0 (by decide) rfl (q := (RX8, TX8, 9)) rfl [.int u1]) rfl rfl hl.1 rfl (lv_room (Nat.le_of_ble_eq_true rfl)) dX8_canPour_2 ⟨Nat.le_of_ble_eq_true rfl, Nat.le_of_ble_eq_true rfl⟩) (fun H locs h0_1 hr_1 hW hS => ?_)
  have hm := hm0 h0_1
  clear hm0 hc_1 hk_1
  refine lv_astore_n (lv' := [(3, .ref w_1), (0, .ref a0), (1, .int u1), (2, .int u2)]) hx hb dX8_canPour_5 rfl hl (by decide) rfl (fun ls hl => ?_)
  refine lv_aload_n hx hb dX8_canPour_6 rfl (lv_at hl 1 rfl) ?_
  refine lv_iload_n hx hb dX8_canPour_7 rfl (lv_at hl 3 rfl) ?_
  obtain ⟨k_2, w_2, σ_2, hc_2, hm0, hk_2⟩ := rc_bx_inv hm
  clear hm
  refine rc_xcr hout hlocks hS hk_2 (Nat.le_of_ble_eq_true rfl) (Nat.le_of_ble_eq_true rfl) (vx_runV (As := [.int u2]) (rest := []) ⟨hx, hb, hml, hown, hts⟩ (k_X8_existing l hl9 hT a0 u2 h0 H.size _ _ _ _ hc_2) (cwV 1 hts (rc_gV tw_2_209 tw_2_211 tw_p_2 tw_1_1 tw_2_212) rfl rfl rfl (by decide +kernel) ⟨Nat.le_of_ble_eq_true rfl, Nat.le_of_ble_eq_true rfl⟩) (rc_preV hT hW hK hE hS h0 (by decide) rfl (q := (RX8, TX8, 9)) rfl [.int u2]) rfl rfl hl.1 rfl (lv_room (Nat.le_of_ble_eq_true rfl)) dX8_canPour_8 ⟨Nat.le_of_ble_eq_true rfl, Nat.le_of_ble_eq_true rfl⟩) (fun H locs h0_2 hr_2 hW hS => ?_)
  have hm := hm0 h0_2
  clear hm0 hc_2 hk_2
  refine lv_astore (lv' := [(4, .ref w_2), (3, .ref w_1), (0, .ref a0), (1, .int u1), (2, .int u2)]) hx hb dX8_canPour_11 hl (by decide) rfl (fun ls hl => ?_)
  refine lv_iload_n hx hb dX8_canPour_13 rfl (lv_at hl 3 rfl) ?_
  refine lv_iload_n hx hb dX8_canPour_14 rfl (lv_at hl 4 rfl) ?_
  refine lv_icmp_eq (tgt := 49) hx hb dX8_canPour_15 (by decide) (fun c_8 => ?_) (fun c_8 => ?_)
  · replace hm := rc_t hm c_8
    refine lv_iconst (v := 0) hx hb dX8_canPour_49 (by decide) ?_
    exact rc_xzret hx hb hr hlocks hW hS (Nat.le_of_ble_eq_true rfl) (Nat.le_of_ble_eq_true rfl) rfl hm dX8_canPour_50
  · replace hm := rc_f hm c_8
    refine lv_aload_n hx hb dX8_canPour_18 rfl (lv_at hl 1 rfl) ?_
    refine rg_1_1 hx hb hts hown hK hW hr_1 tw_1_92 dX8_canPour_19 ?_
    refine lv_if_le (tgt := 49) hx hb dX8_canPour_22 (by decide) (fun c_7 => ?_) (fun c_7 => ?_)
    · replace hm := rc_t hm c_7
      refine lv_iconst (v := 0) hx hb dX8_canPour_49 (by decide) ?_
      exact rc_xzret hx hb hr hlocks hW hS (Nat.le_of_ble_eq_true rfl) (Nat.le_of_ble_eq_true rfl) rfl hm dX8_canPour_50
    · replace hm := rc_f hm c_7
      refine lv_aload hx hb dX8_canPour_25 (lv_at hl 0 rfl) ?_
      obtain ⟨w_3, σ_3, hc_3, hm0⟩ := rc_bd_inv hm
      clear hm
      refine rc_ci hS (va_runV (As := []) (rest := []) ⟨hx, hb, hml, hown, hts⟩ (k_X0_room l hT w_2 hr_2 H.size _ _ _ hc_3) (cwV 0 hts (rc_gV tw_6_219 tw_4_87 tw_4_88 tw_1_5 tw_4_89) rfl rfl rfl (by decide +kernel) ⟨Nat.le_of_ble_eq_true rfl, Nat.le_of_ble_eq_true rfl⟩) (rc_preV hT hW hK hE hS hr_2 (by decide) rfl (q := (RX0, TX0, 6)) rfl []) rfl rfl hl.1 rfl (lv_room (Nat.le_of_ble_eq_true rfl)) dX8_canPour_27 ⟨Nat.le_of_ble_eq_true rfl, Nat.le_of_ble_eq_true rfl⟩) (fun H locs hW hS => ?_)
      have hm := hm0
      clear hm0 hc_3
      refine lv_if_le (tgt := 49) hx hb dX8_canPour_30 (by decide) (fun c_6 => ?_) (fun c_6 => ?_)
      · replace hm := rc_t hm c_6
        refine lv_iconst (v := 0) hx hb dX8_canPour_49 (by decide) ?_
        exact rc_xzret hx hb hr hlocks hW hS (Nat.le_of_ble_eq_true rfl) (Nat.le_of_ble_eq_true rfl) rfl hm dX8_canPour_50
      · replace hm := rc_f hm c_6
        refine lv_aload hx hb dX8_canPour_33 (lv_at hl 0 rfl) ?_
        refine lv_aload_n hx hb dX8_canPour_35 rfl (lv_at hl 1 rfl) ?_
        refine rg_1_3 hx hb hts hown hK hW hr_1 tw_1_100 dX8_canPour_36 ?_
        obtain ⟨w_4, σ_4, hc_4, hm0⟩ := rc_bd_inv hm
        clear hm
        refine rc_ci hS (va_runV (As := [.int (σ_3 w_1 3)]) (rest := []) ⟨hx, hb, hml, hown, hts⟩ (k_X0_isFreeFor l hT w_2 (σ_3 w_1 3) hr_2 H.size _ _ _ hc_4) (cwV 1 hts (rc_gV tw_6_220 tw_4_127 tw_4_128 tw_1_5 tw_4_129) rfl rfl rfl (by decide +kernel) ⟨Nat.le_of_ble_eq_true rfl, Nat.le_of_ble_eq_true rfl⟩) (rc_preV hT hW hK hE hS hr_2 (by decide) rfl (q := (RX0, TX0, 6)) rfl [.int (σ_3 w_1 3)]) rfl rfl hl.1 rfl (lv_room (Nat.le_of_ble_eq_true rfl)) dX8_canPour_39 ⟨Nat.le_of_ble_eq_true rfl, Nat.le_of_ble_eq_true rfl⟩) (fun H locs hW hS => ?_)
        have hm := hm0
        clear hm0 hc_4
        refine lv_if_eq (tgt := 49) hx hb dX8_canPour_42 (by decide) (fun c_5 => ?_) (fun c_5 => ?_)
        · replace hm := rc_t hm c_5
          refine lv_iconst (v := 0) hx hb dX8_canPour_49 (by decide) ?_
          exact rc_xzret hx hb hr hlocks hW hS (Nat.le_of_ble_eq_true rfl) (Nat.le_of_ble_eq_true rfl) rfl hm dX8_canPour_50
        · replace hm := rc_f hm c_5
          refine lv_iconst (v := 1) hx hb dX8_canPour_45 (by decide) ?_
          refine lv_goto (tgt := 50) hx hb dX8_canPour_46 (by decide) ?_
          exact rc_xzret hx hb hr hlocks hW hS (Nat.le_of_ble_eq_true rfl) (Nat.le_of_ble_eq_true rfl) rfl hm dX8_canPour_50
set_option maxHeartbeats 4000000 in
set_option maxRecDepth 100000 in
theorem k_X8_line (l : Launch) (hl9 : l.stackTraces = false) {Y : rc_Y} {sh : Nat → Nat} {rf : rc_F} (hT : rc_T Y sh rf) (a0 : Nat) (u1 : Int32) (h0 : sh a0 = 9) (sz : Nat) (σ σ' : rc_S) (k : Nat) (r : Int32) (hm : f_X8_line rf a0 u1 σ = some (k, r, σ')) : vx_Met l yX8_line (Cond.code yX8_line cX8_line 3 (some .int) :: rc_big) ({ frames := 7, cells := 1, slots := 6, locals := 102 } : Room) (rc_P Y sh rf σ sz [.ref a0, .int u1]) (va_Qi (fun (r' : Int32) (_ : Unit) => k = 0 ∧ r' = r) (fun _ t => rc_W Y sh rf σ' t.heap) (rc_A sh sz)) (rc_XC Y sh rf σ' k sz) 1 6 (rc_A sh sz) := by
  refine vx_ofW (cc := cX8_line) (maxL := 3) (ret := (some .int)) (by decide +kernel) rfl ?_
  intro p e s m args below meth c s₁ B hml hout hv
  obtain ⟨rfl, hsz, hW, hK, hE⟩ := hv
  have hx := B.exec
  have hb := B.bytes
  have hr := B.returns
  have hts : ∀ w ∈ rc_big, w.before _ s = true := fun w h => atoms_spec (ws := Cond.code yX8_line cX8_line 3 (some .int) :: rc_big) B.pre w (List.mem_cons_of_mem _ h)
  have hown : s.vm.findClass RX8 = some m.cls := findClass_of_methodNamed B.named
  have hlocks := B.notSynchronized
  clear B
  subst hsz
  have hS : va_S (rc_A sh s.heap.size) s.heap s.heap [] := va_S.rf
  have hl := lv_entry ([.ref a0, .int u1]) (n := 3) (Nat.le_of_ble_eq_true rfl)
  rw [lg_entry_eq]
  generalize (lg_sl ([.ref a0, .int u1]) ++ List.replicate (3 - (lg_sl ([.ref a0, .int u1])).length) Slot.unset).toArray = ls at hl ⊢
  have hl : lv_has ls 3 [(0, .ref a0), (1, .int u1)] := hl
  unfold f_X8_line at hm
  refine lv_aload_n hx hb dX8_line_0 rfl (lv_at hl 0 rfl) ?_
  refine lv_iload_n hx hb dX8_line_1 rfl (lv_at hl 1 rfl) ?_
  obtain ⟨k_1, w_1, σ_1, hc_1, hm0, hk_1⟩ := rc_bx_inv hm
  clear hm
  refine rc_xcr hout hlocks hS hk_1 (Nat.le_of_ble_eq_true rfl) (Nat.le_of_ble_eq_true rfl) (vx_runV (As := [.int u1]) (rest := []) ⟨hx, hb, hml, hown, hts⟩ (k_X8_existing l hl9 hT a0 u1 h0 s.heap.size _ _ _ _ hc_1) (cwV 1 hts (rc_gV tw_2_209 tw_2_211 tw_p_2 tw_1_1 tw_2_212) rfl rfl rfl (by decide +kernel) ⟨Nat.le_of_ble_eq_true rfl, Nat.le_of_ble_eq_true rfl⟩) (rc_preV hT hW hK hE hS h0 (by decide) rfl (q := (RX8, TX8, 9)) rfl [.int u1]) rfl rfl hl.1 rfl (lv_room (Nat.le_of_ble_eq_true rfl)) dX8_line_2 ⟨Nat.le_of_ble_eq_true rfl, Nat.le_of_ble_eq_true rfl⟩) (fun H locs h0_1 hr_1 hW hS => ?_)
  have hm := hm0 h0_1
  clear hm0 hc_1 hk_1
  refine lv_astore_n (lv' := [(2, .ref w_1), (0, .ref a0), (1, .int u1)]) hx hb dX8_line_5 rfl hl (by decide) rfl (fun ls hl => ?_)
  refine lv_aload_n hx hb dX8_line_6 rfl (lv_at hl 1 rfl) ?_
  refine rg_9_8 hx hb hts hown hK hW h0 tw_2_90 dX8_line_7 ?_
  refine lv_iconst (v := 0) hx hb dX8_line_10 (by decide) ?_
  obtain ⟨w_2, σ_2, hc_2, hm0⟩ := rc_bd_inv hm
  clear hm
  refine rc_cv hS (va_runV (As := [.int (0 : Int32)]) (rest := []) ⟨hx, hb, hml, hown, hts⟩ (k_J4_setLength_d00df l hT (rf a0 8) (0 : Int32) (rc_t_9_8 hT h0) H.size _ _ _ hc_2) (cwV 1 hts (rc_gV tw_6_57 tw_6_58 tw_6_59 tw_1_11 tw_6_60) rfl rfl rfl (by decide +kernel) ⟨Nat.le_of_ble_eq_true rfl, Nat.le_of_ble_eq_true rfl⟩) (rc_preV hT hW hK hE hS (rc_t_9_8 hT h0) (by decide) rfl (q := (RJ4, TJ4, 4)) rfl [.int (0 : Int32)]) rfl rfl hl.1 rfl (lv_room (Nat.le_of_ble_eq_true rfl)) dX8_line_11 ⟨Nat.le_of_ble_eq_true rfl, Nat.le_of_ble_eq_true rfl⟩) (fun H locs hW hS => ?_)
  have hm := hm0
  clear hm0 hc_2
  refine lv_aload_n hx hb dX8_line_14 rfl (lv_at hl 1 rfl) ?_
  refine rg_9_8 hx hb hts hown hK hW h0 tw_2_90 dX8_line_15 ?_
  refine lv_aload_n hx hb dX8_line_18 rfl (lv_at hl 0 rfl) ?_
  refine rg_1_0 hx hb hts hown hK hW hr_1 tw_1_88 dX8_line_19 ?_
  obtain ⟨w_3, σ_3, hc_3, hm0⟩ := rc_bd_inv hm
  clear hm
  refine rc_cr hS (va_runV (As := [.int (σ_2 w_1 0)]) (rest := []) ⟨hx, hb, hml, hown, hts⟩ (k_J4_append_bf812 l hT (rf a0 8) (σ_2 w_1 0) (rc_t_9_8 hT h0) H.size _ _ _ hc_3) (cwV 1 hts (rc_gV tw_6_122 tw_5_16 tw_5_17 tw_1_11 tw_5_18) rfl rfl rfl (by decide +kernel) ⟨Nat.le_of_ble_eq_true rfl, Nat.le_of_ble_eq_true rfl⟩) (rc_preV hT hW hK hE hS (rc_t_9_8 hT h0) (by decide) rfl (q := (RJ4, TJ4, 4)) rfl [.int (σ_2 w_1 0)]) rfl rfl hl.1 rfl (lv_room (Nat.le_of_ble_eq_true rfl)) dX8_line_22 ⟨Nat.le_of_ble_eq_true rfl, Nat.le_of_ble_eq_true rfl⟩) (fun H locs hr_3 hW hS => ?_)
  have hm := hm0
  clear hm0 hc_3
  refine lv_bipush (v := 58) hx hb dX8_line_25 (by decide) ?_
  obtain ⟨w_4, σ_4, hc_4, hm0⟩ := rc_bd_inv hm
  clear hm
  refine rc_cr hS (va_runV (As := [.int (58 : Int32)]) (rest := []) ⟨hx, hb, hml, hown, hts⟩ (k_J4_append_cf468 l hT w_3 (58 : Int32) hr_3 H.size _ _ _ hc_4) (cwV 1 hts (rc_gV tw_6_109 tw_6_110 tw_6_111 tw_1_11 tw_6_112) rfl rfl rfl (by decide +kernel) ⟨Nat.le_of_ble_eq_true rfl, Nat.le_of_ble_eq_true rfl⟩) (rc_preV hT hW hK hE hS hr_3 (by decide) rfl (q := (RJ4, TJ4, 4)) rfl [.int (58 : Int32)]) rfl rfl hl.1 rfl (lv_room (Nat.le_of_ble_eq_true rfl)) dX8_line_27 ⟨Nat.le_of_ble_eq_true rfl, Nat.le_of_ble_eq_true rfl⟩) (fun H locs hr_4 hW hS => ?_)
  have hm := hm0
  clear hm0 hc_4
  refine lv_aload_n hx hb dX8_line_30 rfl (lv_at hl 0 rfl) ?_
  refine rg_1_1 hx hb hts hown hK hW hr_1 tw_1_92 dX8_line_31 ?_
  obtain ⟨w_5, σ_5, hc_5, hm0⟩ := rc_bd_inv hm
  clear hm
  refine rc_cr hS (va_runV (As := [.int (σ_4 w_1 1)]) (rest := []) ⟨hx, hb, hml, hown, hts⟩ (k_J4_append_bf812 l hT w_4 (σ_4 w_1 1) hr_4 H.size _ _ _ hc_5) (cwV 1 hts (rc_gV tw_6_122 tw_5_16 tw_5_17 tw_1_11 tw_5_18) rfl rfl rfl (by decide +kernel) ⟨Nat.le_of_ble_eq_true rfl, Nat.le_of_ble_eq_true rfl⟩) (rc_preV hT hW hK hE hS hr_4 (by decide) rfl (q := (RJ4, TJ4, 4)) rfl [.int (σ_4 w_1 1)]) rfl rfl hl.1 rfl (lv_room (Nat.le_of_ble_eq_true rfl)) dX8_line_34 ⟨Nat.le_of_ble_eq_true rfl, Nat.le_of_ble_eq_true rfl⟩) (fun H locs hr_5 hW hS => ?_)
  have hm := hm0
  clear hm0 hc_5
  refine lv_pop hx hb dX8_line_37 rfl ?_
  refine lv_aload_n hx hb dX8_line_38 rfl (lv_at hl 0 rfl) ?_
  obtain ⟨w_6, σ_6, hc_6, hm0⟩ := rc_bd_inv hm
  clear hm
  refine rc_ci hS (va_runV (As := []) (rest := []) ⟨hx, hb, hml, hown, hts⟩ (k_X0_isEmpty l hT w_1 hr_1 H.size _ _ _ hc_6) (cwV 0 hts (rc_gV tw_2_238 tw_2_239 tw_3_0 tw_1_5 tw_3_1) rfl rfl rfl (by decide +kernel) ⟨Nat.le_of_ble_eq_true rfl, Nat.le_of_ble_eq_true rfl⟩) (rc_preV hT hW hK hE hS hr_1 (by decide) rfl (q := (RX0, TX0, 6)) rfl []) rfl rfl hl.1 rfl (lv_room (Nat.le_of_ble_eq_true rfl)) dX8_line_39 ⟨Nat.le_of_ble_eq_true rfl, Nat.le_of_ble_eq_true rfl⟩) (fun H locs hW hS => ?_)
  have hm := hm0
  clear hm0 hc_6
  refine lv_if_ne (tgt := 74) hx hb dX8_line_42 (by decide) (fun c_21 => ?_) (fun c_21 => ?_)
  · replace hm := rc_f hm c_21
    refine lv_aload_n hx hb dX8_line_74 rfl (lv_at hl 0 rfl) ?_
    refine rg_1_2 hx hb hts hown hK hW hr_1 tw_1_96 dX8_line_75 ?_
    refine lv_if_le (tgt := 98) hx hb dX8_line_78 (by decide) (fun c_11 => ?_) (fun c_11 => ?_)
    · replace hm := rc_t hm c_11
      refine lv_aload_n hx hb dX8_line_98 rfl (lv_at hl 1 rfl) ?_
      refine rg_9_8 hx hb hts hown hK hW h0 tw_2_90 dX8_line_99 ?_
      obtain ⟨w_7, σ_7, hc_7, hm0⟩ := rc_bd_inv hm
      clear hm
      refine rc_ci hS (va_runV (As := []) (rest := []) ⟨hx, hb, hml, hown, hts⟩ (k_J4_length_8abf5 l hT (rf a0 8) (rc_t_9_8 hT h0) H.size _ _ _ hc_7) (cwV 0 hts (rc_gV tw_6_123 tw_5_62 tw_7_109 tw_1_11 tw_5_63) rfl rfl rfl (by decide +kernel) ⟨Nat.le_of_ble_eq_true rfl, Nat.le_of_ble_eq_true rfl⟩) (rc_preV hT hW hK hE hS (rc_t_9_8 hT h0) (by decide) rfl (q := (RJ4, TJ4, 4)) rfl []) rfl rfl hl.1 rfl (lv_room (Nat.le_of_ble_eq_true rfl)) dX8_line_102 ⟨Nat.le_of_ble_eq_true rfl, Nat.le_of_ble_eq_true rfl⟩) (fun H locs hW hS => ?_)
      have hm := hm0
      clear hm0 hc_7
      exact rc_xiret hx hb hr hlocks hW hS (Nat.le_of_ble_eq_true rfl) (Nat.le_of_ble_eq_true rfl) hm dX8_line_105
    · replace hm := rc_f hm c_11
      refine lv_aload_n hx hb dX8_line_81 rfl (lv_at hl 1 rfl) ?_
      refine rg_9_8 hx hb hts hown hK hW h0 tw_2_90 dX8_line_82 ?_
      refine lv_bipush (v := 104) hx hb dX8_line_85 (by decide) ?_
      obtain ⟨w_8, σ_8, hc_8, hm0⟩ := rc_bd_inv hm
      clear hm
      refine rc_cr hS (va_runV (As := [.int (104 : Int32)]) (rest := []) ⟨hx, hb, hml, hown, hts⟩ (k_J4_append_cf468 l hT (rf a0 8) (104 : Int32) (rc_t_9_8 hT h0) H.size _ _ _ hc_8) (cwV 1 hts (rc_gV tw_6_109 tw_6_110 tw_6_111 tw_1_11 tw_6_112) rfl rfl rfl (by decide +kernel) ⟨Nat.le_of_ble_eq_true rfl, Nat.le_of_ble_eq_true rfl⟩) (rc_preV hT hW hK hE hS (rc_t_9_8 hT h0) (by decide) rfl (q := (RJ4, TJ4, 4)) rfl [.int (104 : Int32)]) rfl rfl hl.1 rfl (lv_room (Nat.le_of_ble_eq_true rfl)) dX8_line_87 ⟨Nat.le_of_ble_eq_true rfl, Nat.le_of_ble_eq_true rfl⟩) (fun H locs hr_8 hW hS => ?_)
      have hm := hm0
      clear hm0 hc_8
      refine lv_aload_n hx hb dX8_line_90 rfl (lv_at hl 0 rfl) ?_
      refine rg_1_2 hx hb hts hown hK hW hr_1 tw_1_96 dX8_line_91 ?_
      obtain ⟨w_9, σ_9, hc_9, hm0⟩ := rc_bd_inv hm
      clear hm
      refine rc_cr hS (va_runV (As := [.int (σ_8 w_1 2)]) (rest := []) ⟨hx, hb, hml, hown, hts⟩ (k_J4_append_bf812 l hT w_8 (σ_8 w_1 2) hr_8 H.size _ _ _ hc_9) (cwV 1 hts (rc_gV tw_6_122 tw_5_16 tw_5_17 tw_1_11 tw_5_18) rfl rfl rfl (by decide +kernel) ⟨Nat.le_of_ble_eq_true rfl, Nat.le_of_ble_eq_true rfl⟩) (rc_preV hT hW hK hE hS hr_8 (by decide) rfl (q := (RJ4, TJ4, 4)) rfl [.int (σ_8 w_1 2)]) rfl rfl hl.1 rfl (lv_room (Nat.le_of_ble_eq_true rfl)) dX8_line_94 ⟨Nat.le_of_ble_eq_true rfl, Nat.le_of_ble_eq_true rfl⟩) (fun H locs hr_9 hW hS => ?_)
      have hm := hm0
      clear hm0 hc_9
      refine lv_pop hx hb dX8_line_97 rfl ?_
      refine lv_aload_n hx hb dX8_line_98 rfl (lv_at hl 1 rfl) ?_
      refine rg_9_8 hx hb hts hown hK hW h0 tw_2_90 dX8_line_99 ?_
      obtain ⟨w_10, σ_10, hc_10, hm0⟩ := rc_bd_inv hm
      clear hm
      refine rc_ci hS (va_runV (As := []) (rest := []) ⟨hx, hb, hml, hown, hts⟩ (k_J4_length_8abf5 l hT (rf a0 8) (rc_t_9_8 hT h0) H.size _ _ _ hc_10) (cwV 0 hts (rc_gV tw_6_123 tw_5_62 tw_7_109 tw_1_11 tw_5_63) rfl rfl rfl (by decide +kernel) ⟨Nat.le_of_ble_eq_true rfl, Nat.le_of_ble_eq_true rfl⟩) (rc_preV hT hW hK hE hS (rc_t_9_8 hT h0) (by decide) rfl (q := (RJ4, TJ4, 4)) rfl []) rfl rfl hl.1 rfl (lv_room (Nat.le_of_ble_eq_true rfl)) dX8_line_102 ⟨Nat.le_of_ble_eq_true rfl, Nat.le_of_ble_eq_true rfl⟩) (fun H locs hW hS => ?_)
      have hm := hm0
      clear hm0 hc_10
      exact rc_xiret hx hb hr hlocks hW hS (Nat.le_of_ble_eq_true rfl) (Nat.le_of_ble_eq_true rfl) hm dX8_line_105
  · replace hm := rc_t hm c_21
    refine lv_aload_n hx hb dX8_line_45 rfl (lv_at hl 1 rfl) ?_
    refine rg_9_8 hx hb hts hown hK hW h0 tw_2_90 dX8_line_46 ?_
    refine lv_bipush (v := 35) hx hb dX8_line_49 (by decide) ?_
    obtain ⟨w_12, σ_12, hc_12, hm0⟩ := rc_bd_inv hm
    clear hm
    refine rc_cr hS (va_runV (As := [.int (35 : Int32)]) (rest := []) ⟨hx, hb, hml, hown, hts⟩ (k_J4_append_cf468 l hT (rf a0 8) (35 : Int32) (rc_t_9_8 hT h0) H.size _ _ _ hc_12) (cwV 1 hts (rc_gV tw_6_109 tw_6_110 tw_6_111 tw_1_11 tw_6_112) rfl rfl rfl (by decide +kernel) ⟨Nat.le_of_ble_eq_true rfl, Nat.le_of_ble_eq_true rfl⟩) (rc_preV hT hW hK hE hS (rc_t_9_8 hT h0) (by decide) rfl (q := (RJ4, TJ4, 4)) rfl [.int (35 : Int32)]) rfl rfl hl.1 rfl (lv_room (Nat.le_of_ble_eq_true rfl)) dX8_line_51 ⟨Nat.le_of_ble_eq_true rfl, Nat.le_of_ble_eq_true rfl⟩) (fun H locs hr_12 hW hS => ?_)
    have hm := hm0
    clear hm0 hc_12
    refine lv_aload_n hx hb dX8_line_54 rfl (lv_at hl 0 rfl) ?_
    refine rg_1_3 hx hb hts hown hK hW hr_1 tw_1_100 dX8_line_55 ?_
    obtain ⟨w_13, σ_13, hc_13, hm0⟩ := rc_bd_inv hm
    clear hm
    refine rc_cr hS (va_runV (As := [.int (σ_12 w_1 3)]) (rest := []) ⟨hx, hb, hml, hown, hts⟩ (k_J4_append_bf812 l hT w_12 (σ_12 w_1 3) hr_12 H.size _ _ _ hc_13) (cwV 1 hts (rc_gV tw_6_122 tw_5_16 tw_5_17 tw_1_11 tw_5_18) rfl rfl rfl (by decide +kernel) ⟨Nat.le_of_ble_eq_true rfl, Nat.le_of_ble_eq_true rfl⟩) (rc_preV hT hW hK hE hS hr_12 (by decide) rfl (q := (RJ4, TJ4, 4)) rfl [.int (σ_12 w_1 3)]) rfl rfl hl.1 rfl (lv_room (Nat.le_of_ble_eq_true rfl)) dX8_line_58 ⟨Nat.le_of_ble_eq_true rfl, Nat.le_of_ble_eq_true rfl⟩) (fun H locs hr_13 hW hS => ?_)
    have hm := hm0
    clear hm0 hc_13
    refine lv_bipush (v := 109) hx hb dX8_line_61 (by decide) ?_
    obtain ⟨w_14, σ_14, hc_14, hm0⟩ := rc_bd_inv hm
    clear hm
    refine rc_cr hS (va_runV (As := [.int (109 : Int32)]) (rest := []) ⟨hx, hb, hml, hown, hts⟩ (k_J4_append_cf468 l hT w_13 (109 : Int32) hr_13 H.size _ _ _ hc_14) (cwV 1 hts (rc_gV tw_6_109 tw_6_110 tw_6_111 tw_1_11 tw_6_112) rfl rfl rfl (by decide +kernel) ⟨Nat.le_of_ble_eq_true rfl, Nat.le_of_ble_eq_true rfl⟩) (rc_preV hT hW hK hE hS hr_13 (by decide) rfl (q := (RJ4, TJ4, 4)) rfl [.int (109 : Int32)]) rfl rfl hl.1 rfl (lv_room (Nat.le_of_ble_eq_true rfl)) dX8_line_63 ⟨Nat.le_of_ble_eq_true rfl, Nat.le_of_ble_eq_true rfl⟩) (fun H locs hr_14 hW hS => ?_)
    have hm := hm0
    clear hm0 hc_14
    refine lv_aload_n hx hb dX8_line_66 rfl (lv_at hl 0 rfl) ?_
    refine rg_1_5 hx hb hts hown hK hW hr_1 tw_1_105 dX8_line_67 ?_
    obtain ⟨w_15, σ_15, hc_15, hm0⟩ := rc_bd_inv hm
    clear hm
    refine rc_cr hS (va_runV (As := [.int (σ_14 w_1 5)]) (rest := []) ⟨hx, hb, hml, hown, hts⟩ (k_J4_append_bf812 l hT w_14 (σ_14 w_1 5) hr_14 H.size _ _ _ hc_15) (cwV 1 hts (rc_gV tw_6_122 tw_5_16 tw_5_17 tw_1_11 tw_5_18) rfl rfl rfl (by decide +kernel) ⟨Nat.le_of_ble_eq_true rfl, Nat.le_of_ble_eq_true rfl⟩) (rc_preV hT hW hK hE hS hr_14 (by decide) rfl (q := (RJ4, TJ4, 4)) rfl [.int (σ_14 w_1 5)]) rfl rfl hl.1 rfl (lv_room (Nat.le_of_ble_eq_true rfl)) dX8_line_70 ⟨Nat.le_of_ble_eq_true rfl, Nat.le_of_ble_eq_true rfl⟩) (fun H locs hr_15 hW hS => ?_)
    have hm := hm0
    clear hm0 hc_15
    refine lv_pop hx hb dX8_line_73 rfl ?_
    refine lv_aload_n hx hb dX8_line_74 rfl (lv_at hl 0 rfl) ?_
    refine rg_1_2 hx hb hts hown hK hW hr_1 tw_1_96 dX8_line_75 ?_
    refine lv_if_le (tgt := 98) hx hb dX8_line_78 (by decide) (fun c_20 => ?_) (fun c_20 => ?_)
    · replace hm := rc_t hm c_20
      refine lv_aload_n hx hb dX8_line_98 rfl (lv_at hl 1 rfl) ?_
      refine rg_9_8 hx hb hts hown hK hW h0 tw_2_90 dX8_line_99 ?_
      obtain ⟨w_16, σ_16, hc_16, hm0⟩ := rc_bd_inv hm
      clear hm
      refine rc_ci hS (va_runV (As := []) (rest := []) ⟨hx, hb, hml, hown, hts⟩ (k_J4_length_8abf5 l hT (rf a0 8) (rc_t_9_8 hT h0) H.size _ _ _ hc_16) (cwV 0 hts (rc_gV tw_6_123 tw_5_62 tw_7_109 tw_1_11 tw_5_63) rfl rfl rfl (by decide +kernel) ⟨Nat.le_of_ble_eq_true rfl, Nat.le_of_ble_eq_true rfl⟩) (rc_preV hT hW hK hE hS (rc_t_9_8 hT h0) (by decide) rfl (q := (RJ4, TJ4, 4)) rfl []) rfl rfl hl.1 rfl (lv_room (Nat.le_of_ble_eq_true rfl)) dX8_line_102 ⟨Nat.le_of_ble_eq_true rfl, Nat.le_of_ble_eq_true rfl⟩) (fun H locs hW hS => ?_)
      have hm := hm0
      clear hm0 hc_16
      exact rc_xiret hx hb hr hlocks hW hS (Nat.le_of_ble_eq_true rfl) (Nat.le_of_ble_eq_true rfl) hm dX8_line_105
    · replace hm := rc_f hm c_20
      refine lv_aload_n hx hb dX8_line_81 rfl (lv_at hl 1 rfl) ?_
      refine rg_9_8 hx hb hts hown hK hW h0 tw_2_90 dX8_line_82 ?_
      refine lv_bipush (v := 104) hx hb dX8_line_85 (by decide) ?_
      obtain ⟨w_17, σ_17, hc_17, hm0⟩ := rc_bd_inv hm
      clear hm
      refine rc_cr hS (va_runV (As := [.int (104 : Int32)]) (rest := []) ⟨hx, hb, hml, hown, hts⟩ (k_J4_append_cf468 l hT (rf a0 8) (104 : Int32) (rc_t_9_8 hT h0) H.size _ _ _ hc_17) (cwV 1 hts (rc_gV tw_6_109 tw_6_110 tw_6_111 tw_1_11 tw_6_112) rfl rfl rfl (by decide +kernel) ⟨Nat.le_of_ble_eq_true rfl, Nat.le_of_ble_eq_true rfl⟩) (rc_preV hT hW hK hE hS (rc_t_9_8 hT h0) (by decide) rfl (q := (RJ4, TJ4, 4)) rfl [.int (104 : Int32)]) rfl rfl hl.1 rfl (lv_room (Nat.le_of_ble_eq_true rfl)) dX8_line_87 ⟨Nat.le_of_ble_eq_true rfl, Nat.le_of_ble_eq_true rfl⟩) (fun H locs hr_17 hW hS => ?_)
      have hm := hm0
      clear hm0 hc_17
      refine lv_aload_n hx hb dX8_line_90 rfl (lv_at hl 0 rfl) ?_
      refine rg_1_2 hx hb hts hown hK hW hr_1 tw_1_96 dX8_line_91 ?_
      obtain ⟨w_18, σ_18, hc_18, hm0⟩ := rc_bd_inv hm
      clear hm
      refine rc_cr hS (va_runV (As := [.int (σ_17 w_1 2)]) (rest := []) ⟨hx, hb, hml, hown, hts⟩ (k_J4_append_bf812 l hT w_17 (σ_17 w_1 2) hr_17 H.size _ _ _ hc_18) (cwV 1 hts (rc_gV tw_6_122 tw_5_16 tw_5_17 tw_1_11 tw_5_18) rfl rfl rfl (by decide +kernel) ⟨Nat.le_of_ble_eq_true rfl, Nat.le_of_ble_eq_true rfl⟩) (rc_preV hT hW hK hE hS hr_17 (by decide) rfl (q := (RJ4, TJ4, 4)) rfl [.int (σ_17 w_1 2)]) rfl rfl hl.1 rfl (lv_room (Nat.le_of_ble_eq_true rfl)) dX8_line_94 ⟨Nat.le_of_ble_eq_true rfl, Nat.le_of_ble_eq_true rfl⟩) (fun H locs hr_18 hW hS => ?_)
      have hm := hm0
      clear hm0 hc_18
      refine lv_pop hx hb dX8_line_97 rfl ?_
      refine lv_aload_n hx hb dX8_line_98 rfl (lv_at hl 1 rfl) ?_
      refine rg_9_8 hx hb hts hown hK hW h0 tw_2_90 dX8_line_99 ?_
      obtain ⟨w_19, σ_19, hc_19, hm0⟩ := rc_bd_inv hm
      clear hm
      refine rc_ci hS (va_runV (As := []) (rest := []) ⟨hx, hb, hml, hown, hts⟩ (k_J4_length_8abf5 l hT (rf a0 8) (rc_t_9_8 hT h0) H.size _ _ _ hc_19) (cwV 0 hts (rc_gV tw_6_123 tw_5_62 tw_7_109 tw_1_11 tw_5_63) rfl rfl rfl (by decide +kernel) ⟨Nat.le_of_ble_eq_true rfl, Nat.le_of_ble_eq_true rfl⟩) (rc_preV hT hW hK hE hS (rc_t_9_8 hT h0) (by decide) rfl (q := (RJ4, TJ4, 4)) rfl []) rfl rfl hl.1 rfl (lv_room (Nat.le_of_ble_eq_true rfl)) dX8_line_102 ⟨Nat.le_of_ble_eq_true rfl, Nat.le_of_ble_eq_true rfl⟩) (fun H locs hW hS => ?_)
      have hm := hm0
      clear hm0 hc_19
      exact rc_xiret hx hb hr hlocks hW hS (Nat.le_of_ble_eq_true rfl) (Nat.le_of_ble_eq_true rfl) hm dX8_line_105
set_option maxHeartbeats 4000000 in
set_option maxRecDepth 100000 in
theorem k_X8_character (l : Launch) (hl9 : l.stackTraces = false) {Y : rc_Y} {sh : Nat → Nat} {rf : rc_F} (hT : rc_T Y sh rf) (a0 : Nat) (u1 : Int32) (h0 : sh a0 = 9) (sz : Nat) (σ σ' : rc_S) (k : Nat) (r : Int32) (hm : f_X8_character rf a0 u1 σ = some (k, r, σ')) : vx_Met l yX8_character (Cond.code yX8_character cX8_character 2 (some .char) :: rc_big) ({ frames := 6, cells := 1, slots := 6, locals := 88 } : Room) (rc_P Y sh rf σ sz [.ref a0, .int u1]) (va_Qi (fun (r' : Int32) (_ : Unit) => k = 0 ∧ r' = r) (fun _ t => rc_W Y sh rf σ' t.heap) (rc_A sh sz)) (rc_XC Y sh rf σ' k sz) 1 6 (rc_A sh sz) := by
  refine vx_ofW (cc := cX8_character) (maxL := 2) (ret := (some .char)) (by decide +kernel) rfl ?_
  intro p e s m args below meth c s₁ B hml hout hv
  obtain ⟨rfl, hsz, hW, hK, hE⟩ := hv
  have hx := B.exec
  have hb := B.bytes
  have hr := B.returns
  have hts : ∀ w ∈ rc_big, w.before _ s = true := fun w h => atoms_spec (ws := Cond.code yX8_character cX8_character 2 (some .char) :: rc_big) B.pre w (List.mem_cons_of_mem _ h)
  have hown : s.vm.findClass RX8 = some m.cls := findClass_of_methodNamed B.named
  have hlocks := B.notSynchronized
  clear B
  subst hsz
  have hS : va_S (rc_A sh s.heap.size) s.heap s.heap [] := va_S.rf
  have hl := lv_entry ([.ref a0, .int u1]) (n := 2) (Nat.le_of_ble_eq_true rfl)
  rw [lg_entry_eq]
  generalize (lg_sl ([.ref a0, .int u1]) ++ List.replicate (2 - (lg_sl ([.ref a0, .int u1])).length) Slot.unset).toArray = ls at hl ⊢
  have hl : lv_has ls 2 [(0, .ref a0), (1, .int u1)] := hl
  unfold f_X8_character at hm
  refine lv_iload_n hx hb dX8_character_0 rfl (lv_at hl 1 rfl) ?_
  refine lv_iconst (v := 0) hx hb dX8_character_1 (by decide) ?_
  refine lv_aload_n hx hb dX8_character_2 rfl (lv_at hl 0 rfl) ?_
  refine rg_9_8 hx hb hts hown hK hW h0 tw_2_90 dX8_character_3 ?_
  obtain ⟨w_1, σ_1, hc_1, hm0⟩ := rc_bd_inv hm
  clear hm
  refine rc_ci hS (va_runV (As := []) (rest := [.int (0 : Int32), .int u1]) ⟨hx, hb, hml, hown, hts⟩ (k_J4_length_8abf5 l hT (rf a0 8) (rc_t_9_8 hT h0) s.heap.size _ _ _ hc_1) (cwV 0 hts (rc_gV tw_6_123 tw_5_62 tw_7_109 tw_1_11 tw_5_63) rfl rfl rfl (by decide +kernel) ⟨Nat.le_of_ble_eq_true rfl, Nat.le_of_ble_eq_true rfl⟩) (rc_preV hT hW hK hE hS (rc_t_9_8 hT h0) (by decide) rfl (q := (RJ4, TJ4, 4)) rfl []) rfl rfl hl.1 rfl (lv_room (Nat.le_of_ble_eq_true rfl)) dX8_character_6 ⟨Nat.le_of_ble_eq_true rfl, Nat.le_of_ble_eq_true rfl⟩) (fun H locs hW hS => ?_)
  have hm := hm0
  clear hm0 hc_1
  refine lv_iconst (v := 1) hx hb dX8_character_9 (by decide) ?_
  refine lv_isub hx hb dX8_character_10 ?_
  obtain ⟨w_2, σ_2, hc_2, hm0⟩ := rc_bd_inv hm
  clear hm
  refine rc_ci hS (va_runS (As := [.int u1, .int (0 : Int32), .int (w_1 - (1 : Int32))]) (rest := []) ⟨hx, hb, hml, hown, hts⟩ (k_X8_isOutside l hT u1 (0 : Int32) (w_1 - (1 : Int32))  H.size _ _ _ hc_2) (va_cwS 3 hts (rc_gS tw_3_76 tw_3_77 tw_1_1 tw_3_78) rfl rfl rfl (by decide +kernel) ⟨Nat.le_of_ble_eq_true rfl, Nat.le_of_ble_eq_true rfl⟩) (rc_preS hT hW hK hE hS [.int u1, .int (0 : Int32), .int (w_1 - (1 : Int32))]) rfl rfl hl.1 rfl (lv_room (Nat.le_of_ble_eq_true rfl)) dX8_character_11 ⟨Nat.le_of_ble_eq_true rfl, Nat.le_of_ble_eq_true rfl⟩) (fun H locs hW hS => ?_)
  have hm := hm0
  clear hm0 hc_2
  refine lv_if_eq (tgt := 25) hx hb dX8_character_14 (by decide) (fun c_4 => ?_) (fun c_4 => ?_)
  · replace hm := rc_t hm c_4
    refine lv_aload_n hx hb dX8_character_25 rfl (lv_at hl 0 rfl) ?_
    refine rg_9_8 hx hb hts hown hK hW h0 tw_2_90 dX8_character_26 ?_
    refine lv_iload_n hx hb dX8_character_29 rfl (lv_at hl 1 rfl) ?_
    obtain ⟨w_3, σ_3, hc_3, hm0⟩ := rc_bd_inv hm
    clear hm
    refine rc_ci hS (va_runV (As := [.int u1]) (rest := []) ⟨hx, hb, hml, hown, hts⟩ (k_J4_charAt_5068e l hT (rf a0 8) u1 (rc_t_9_8 hT h0) H.size _ _ _ hc_3) (cwV 1 hts (rc_gV tw_6_131 tw_6_132 tw_6_133 tw_1_11 tw_6_134) rfl rfl rfl (by decide +kernel) ⟨Nat.le_of_ble_eq_true rfl, Nat.le_of_ble_eq_true rfl⟩) (rc_preV hT hW hK hE hS (rc_t_9_8 hT h0) (by decide) rfl (q := (RJ4, TJ4, 4)) rfl [.int u1]) rfl rfl hl.1 rfl (lv_room (Nat.le_of_ble_eq_true rfl)) dX8_character_30 ⟨Nat.le_of_ble_eq_true rfl, Nat.le_of_ble_eq_true rfl⟩) (fun H locs hW hS => ?_)
    have hm := hm0
    clear hm0 hc_3
    have hn := (rc_dc hm).1
    replace hm := (rc_dc hm).2
    exact rc_xzret hx hb hr hlocks hW hS (Nat.le_of_ble_eq_true rfl) (Nat.le_of_ble_eq_true rfl) (rc_narc hn) hm dX8_character_33
  · replace hm := rc_f hm c_4
    exact rc_throw (n := 2) hx hb hl9 hT hE hW hS hts hown rfl (by decide) (by decide) rc_hk_2 rc_hi_2 (rc_hat_2 hts hE) rc_hgd_2 (hl.1.trans hml.symm) dX8_character_17 dX8_character_20 dX8_character_21 dX8_character_24 hout ⟨Nat.le_of_ble_eq_true rfl, Nat.le_of_ble_eq_true rfl, Nat.le_of_ble_eq_true rfl, Nat.le_of_ble_eq_true rfl⟩ hlocks (Nat.le_of_ble_eq_true rfl) (Nat.le_of_ble_eq_true rfl) hm
set_option maxHeartbeats 4000000 in
set_option maxRecDepth 100000 in
theorem k_X8_undo (l : Launch) (hl9 : l.stackTraces = false) {Y : rc_Y} {sh : Nat → Nat} {rf : rc_F} (hT : rc_T Y sh rf) (a0 : Nat) (h0 : sh a0 = 9) (sz : Nat) (σ σ' : rc_S) (k : Nat) (r : Int32) (hm : f_X8_undo rf a0 σ = some (k, r, σ')) : vx_Met l yX8_undo (Cond.code yX8_undo cX8_undo 1 (some .int) :: rc_big) ({ frames := 6, cells := 1, slots := 6, locals := 81 } : Room) (rc_P Y sh rf σ sz [.ref a0]) (va_Qi (fun (r' : Int32) (_ : Unit) => k = 0 ∧ r' = r) (fun _ t => rc_W Y sh rf σ' t.heap) (rc_A sh sz)) (rc_XC Y sh rf σ' k sz) 1 6 (rc_A sh sz) := by
  refine vx_ofW (cc := cX8_undo) (maxL := 1) (ret := (some .int)) (by decide +kernel) rfl ?_
  intro p e s m args below meth c s₁ B hml hout hv
  obtain ⟨rfl, hsz, hW, hK, hE⟩ := hv
  have hx := B.exec
  have hb := B.bytes
  have hr := B.returns
  have hts : ∀ w ∈ rc_big, w.before _ s = true := fun w h => atoms_spec (ws := Cond.code yX8_undo cX8_undo 1 (some .int) :: rc_big) B.pre w (List.mem_cons_of_mem _ h)
  have hown : s.vm.findClass RX8 = some m.cls := findClass_of_methodNamed B.named
  have hlocks := B.notSynchronized
  clear B
  subst hsz
  have hS : va_S (rc_A sh s.heap.size) s.heap s.heap [] := va_S.rf
  have hl := lv_entry ([.ref a0]) (n := 1) (Nat.le_of_ble_eq_true rfl)
  rw [lg_entry_eq]
  generalize (lg_sl ([.ref a0]) ++ List.replicate (1 - (lg_sl ([.ref a0])).length) Slot.unset).toArray = ls at hl ⊢
  have hl : lv_has ls 1 [(0, .ref a0)] := hl
  unfold f_X8_undo at hm
  refine lv_aload_n hx hb dX8_undo_0 rfl (lv_at hl 0 rfl) ?_
  refine rg_9_5 hx hb hts hown hK hW h0 tw_2_87 dX8_undo_1 ?_
  refine rg_3_2 hx hb hts hown hK hW (rc_t_9_5 hT h0) tw_2_9 dX8_undo_4 ?_
  refine lv_if_ne (tgt := 18) hx hb dX8_undo_7 (by decide) (fun c_3 => ?_) (fun c_3 => ?_)
  · replace hm := rc_f hm c_3
    refine lv_aload_n hx hb dX8_undo_18 rfl (lv_at hl 0 rfl) ?_
    refine rg_9_1 hx hb hts hown hK hW h0 tw_2_83 dX8_undo_19 ?_
    refine lv_aload_n hx hb dX8_undo_22 rfl (lv_at hl 0 rfl) ?_
    refine rg_9_5 hx hb hts hown hK hW h0 tw_2_87 dX8_undo_23 ?_
    obtain ⟨w_1, σ_1, hc_1, hm0⟩ := rc_bd_inv hm
    clear hm
    refine rc_cr hS (va_runV (As := []) (rest := [.ref (rf a0 1)]) ⟨hx, hb, hml, hown, hts⟩ (k_X2_takeLatest l hT (rf a0 5) (rc_t_9_5 hT h0) s.heap.size _ _ _ hc_1) (cwV 0 hts (rc_gV tw_7_82 tw_7_83 tw_7_84 tw_1_8 tw_7_85) rfl rfl rfl (by decide +kernel) ⟨Nat.le_of_ble_eq_true rfl, Nat.le_of_ble_eq_true rfl⟩) (rc_preV hT hW hK hE hS (rc_t_9_5 hT h0) (by decide) rfl (q := (RX2, TX2, 3)) rfl []) rfl rfl hl.1 rfl (lv_room (Nat.le_of_ble_eq_true rfl)) dX8_undo_26 ⟨Nat.le_of_ble_eq_true rfl, Nat.le_of_ble_eq_true rfl⟩) (fun H locs hr_1 hW hS => ?_)
    have hm := hm0
    clear hm0 hc_1
    obtain ⟨w_2, σ_2, hc_2, hm0⟩ := rc_bd_inv hm
    clear hm
    refine rc_cv hS (va_runV (As := [.ref w_1]) (rest := []) ⟨hx, hb, hml, hown, hts⟩ (k_X1_copy l hT (rf a0 1) w_1 (rc_t_9_1 hT h0) hr_1 H.size _ _ _ hc_2) (cwV 1 hts (rc_gV tw_6_24 tw_3_152 tw_3_153 tw_1_3 tw_3_154) rfl rfl rfl (by decide +kernel) ⟨Nat.le_of_ble_eq_true rfl, Nat.le_of_ble_eq_true rfl⟩) (rc_preV hT hW hK hE hS (rc_t_9_1 hT h0) (by decide) rfl (q := (RX1, TX1, 14)) rfl [.ref w_1]) rfl rfl hl.1 rfl (lv_room (Nat.le_of_ble_eq_true rfl)) dX8_undo_29 ⟨Nat.le_of_ble_eq_true rfl, Nat.le_of_ble_eq_true rfl⟩) (fun H locs hW hS => ?_)
    have hm := hm0
    clear hm0 hc_2
    refine lv_aload_n hx hb dX8_undo_32 rfl (lv_at hl 0 rfl) ?_
    refine rg_9_5 hx hb hts hown hK hW h0 tw_2_87 dX8_undo_33 ?_
    refine rg_3_2 hx hb hts hown hK hW (rc_t_9_5 hT h0) tw_2_9 dX8_undo_36 ?_
    exact rc_xiret hx hb hr hlocks hW hS (Nat.le_of_ble_eq_true rfl) (Nat.le_of_ble_eq_true rfl) hm dX8_undo_39
  · replace hm := rc_t hm c_3
    exact rc_throw (n := 5) hx hb hl9 hT hE hW hS hts hown rfl (by decide) (by decide) rc_hk_5 rc_hi_5 (rc_hat_5 hts hE) rc_hgd_5 (hl.1.trans hml.symm) dX8_undo_10 dX8_undo_13 dX8_undo_14 dX8_undo_17 hout ⟨Nat.le_of_ble_eq_true rfl, Nat.le_of_ble_eq_true rfl, Nat.le_of_ble_eq_true rfl, Nat.le_of_ble_eq_true rfl⟩ hlocks (Nat.le_of_ble_eq_true rfl) (Nat.le_of_ble_eq_true rfl) hm
set_option maxHeartbeats 4000000 in
set_option maxRecDepth 100000 in
theorem k_X8_save (l : Launch) {Y : rc_Y} {sh : Nat → Nat} {rf : rc_F} (hT : rc_T Y sh rf) (a0 : Nat) (h0 : sh a0 = 9) (sz : Nat) (σ σ' : rc_S) (r : Int32) (hm : f_X8_save rf a0 σ = some (r, σ')) : Met l yX8_save (Cond.code yX8_save cX8_save 1 (some .int) :: rc_big) ({ frames := 3, cells := 0, slots := 0, locals := 64 } : Room) (rc_P Y sh rf σ sz [.ref a0]) (va_Qi (fun (r' : Int32) (_ : Unit) => r' = r) (fun _ t => rc_W Y sh rf σ' t.heap) (rc_A sh sz)) 0 0 (rc_A sh sz) := by
  refine Met.ofW (cc := cX8_save) (maxL := 1) (ret := (some .int)) (by decide +kernel) rfl ?_
  intro p e s m args below meth c s₁ B hml hv
  obtain ⟨rfl, hsz, hW, hK, hE⟩ := hv
  have hx := B.exec
  have hb := B.bytes
  have hr := B.returns
  have hts : ∀ w ∈ rc_big, w.before _ s = true := fun w h => atoms_spec (ws := Cond.code yX8_save cX8_save 1 (some .int) :: rc_big) B.pre w (List.mem_cons_of_mem _ h)
  have hown : s.vm.findClass RX8 = some m.cls := findClass_of_methodNamed B.named
  have hlocks := B.notSynchronized
  clear B
  subst hsz
  have hS : va_S (rc_A sh s.heap.size) s.heap s.heap [] := va_S.rf
  have hl := lv_entry ([.ref a0]) (n := 1) (Nat.le_of_ble_eq_true rfl)
  rw [lg_entry_eq]
  generalize (lg_sl ([.ref a0]) ++ List.replicate (1 - (lg_sl ([.ref a0])).length) Slot.unset).toArray = ls at hl ⊢
  have hl : lv_has ls 1 [(0, .ref a0)] := hl
  unfold f_X8_save at hm
  refine lv_aload_n hx hb dX8_save_0 rfl (lv_at hl 0 rfl) ?_
  refine rg_9_3 hx hb hts hown hK hW h0 tw_2_85 dX8_save_1 ?_
  refine lv_aload_n hx hb dX8_save_4 rfl (lv_at hl 0 rfl) ?_
  refine rg_9_1 hx hb hts hown hK hW h0 tw_2_83 dX8_save_5 ?_
  obtain ⟨w_1, σ_1, hc_1, hm0⟩ := rc_bd_inv hm
  clear hm
  refine rc_cv hS (va_runV (As := [.ref (rf a0 1)]) (rest := []) ⟨hx, hb, hml, hown, hts⟩ (k_X1_copy l hT (rf a0 3) (rf a0 1) (rc_t_9_3 hT h0) (rc_t_9_1 hT h0) s.heap.size _ _ _ hc_1) (cwV 1 hts (rc_gV tw_6_24 tw_3_152 tw_3_153 tw_1_3 tw_3_154) rfl rfl rfl (by decide +kernel) ⟨Nat.le_of_ble_eq_true rfl, Nat.le_of_ble_eq_true rfl⟩) (rc_preV hT hW hK hE hS (rc_t_9_3 hT h0) (by decide) rfl (q := (RX1, TX1, 14)) rfl [.ref (rf a0 1)]) rfl rfl hl.1 rfl (lv_room (Nat.le_of_ble_eq_true rfl)) dX8_save_8 ⟨Nat.le_of_ble_eq_true rfl, Nat.le_of_ble_eq_true rfl⟩) (fun H locs hW hS => ?_)
  have hm := hm0
  clear hm0 hc_1
  refine lv_aload_n hx hb dX8_save_11 rfl (lv_at hl 0 rfl) ?_
  refine lv_iconst (v := 1) hx hb dX8_save_12 (by decide) ?_
  refine rp_9_4 hx hb hts hown hK hW hS h0 tw_2_86 rfl rfl dX8_save_13 (fun σ_2 H locs eσ hW hS => ?_)
  replace hm := rc_lt_at hm eσ
  clear eσ
  refine lv_aload_n hx hb dX8_save_16 rfl (lv_at hl 0 rfl) ?_
  refine rg_9_1 hx hb hts hown hK hW h0 tw_2_83 dX8_save_17 ?_
  refine rg_2_2 hx hb hts hown hK hW (rc_t_9_1 hT h0) tw_1_148 dX8_save_20 ?_
  exact rc_eiret hx hb hr hlocks hW hS (Nat.le_of_ble_eq_true rfl) (Nat.le_of_ble_eq_true rfl) hm dX8_save_23
set_option maxHeartbeats 4000000 in
set_option maxRecDepth 100000 in
theorem k_X8_restore (l : Launch) (hl9 : l.stackTraces = false) {Y : rc_Y} {sh : Nat → Nat} {rf : rc_F} (hT : rc_T Y sh rf) (a0 : Nat) (h0 : sh a0 = 9) (sz : Nat) (σ σ' : rc_S) (k : Nat) (r : Int32) (hm : f_X8_restore rf a0 σ = some (k, r, σ')) : vx_Met l yX8_restore (Cond.code yX8_restore cX8_restore 1 (some .int) :: rc_big) ({ frames := 6, cells := 1, slots := 6, locals := 81 } : Room) (rc_P Y sh rf σ sz [.ref a0]) (va_Qi (fun (r' : Int32) (_ : Unit) => k = 0 ∧ r' = r) (fun _ t => rc_W Y sh rf σ' t.heap) (rc_A sh sz)) (rc_XC Y sh rf σ' k sz) 1 6 (rc_A sh sz) := by
  refine vx_ofW (cc := cX8_restore) (maxL := 1) (ret := (some .int)) (by decide +kernel) rfl ?_
  intro p e s m args below meth c s₁ B hml hout hv
  obtain ⟨rfl, hsz, hW, hK, hE⟩ := hv
  have hx := B.exec
  have hb := B.bytes
  have hr := B.returns
  have hts : ∀ w ∈ rc_big, w.before _ s = true := fun w h => atoms_spec (ws := Cond.code yX8_restore cX8_restore 1 (some .int) :: rc_big) B.pre w (List.mem_cons_of_mem _ h)
  have hown : s.vm.findClass RX8 = some m.cls := findClass_of_methodNamed B.named
  have hlocks := B.notSynchronized
  clear B
  subst hsz
  have hS : va_S (rc_A sh s.heap.size) s.heap s.heap [] := va_S.rf
  have hl := lv_entry ([.ref a0]) (n := 1) (Nat.le_of_ble_eq_true rfl)
  rw [lg_entry_eq]
  generalize (lg_sl ([.ref a0]) ++ List.replicate (1 - (lg_sl ([.ref a0])).length) Slot.unset).toArray = ls at hl ⊢
  have hl : lv_has ls 1 [(0, .ref a0)] := hl
  unfold f_X8_restore at hm
  refine lv_aload_n hx hb dX8_restore_0 rfl (lv_at hl 0 rfl) ?_
  refine rg_9_4 hx hb hts hown hK hW h0 tw_2_86 dX8_restore_1 ?_
  refine lv_if_ne (tgt := 15) hx hb dX8_restore_4 (by decide) (fun c_3 => ?_) (fun c_3 => ?_)
  · replace hm := rc_f hm c_3
    refine lv_aload_n hx hb dX8_restore_15 rfl (lv_at hl 0 rfl) ?_
    refine rg_9_1 hx hb hts hown hK hW h0 tw_2_83 dX8_restore_16 ?_
    refine lv_aload_n hx hb dX8_restore_19 rfl (lv_at hl 0 rfl) ?_
    refine rg_9_3 hx hb hts hown hK hW h0 tw_2_85 dX8_restore_20 ?_
    obtain ⟨w_1, σ_1, hc_1, hm0⟩ := rc_bd_inv hm
    clear hm
    refine rc_cv hS (va_runV (As := [.ref (rf a0 3)]) (rest := []) ⟨hx, hb, hml, hown, hts⟩ (k_X1_copy l hT (rf a0 1) (rf a0 3) (rc_t_9_1 hT h0) (rc_t_9_3 hT h0) s.heap.size _ _ _ hc_1) (cwV 1 hts (rc_gV tw_6_24 tw_3_152 tw_3_153 tw_1_3 tw_3_154) rfl rfl rfl (by decide +kernel) ⟨Nat.le_of_ble_eq_true rfl, Nat.le_of_ble_eq_true rfl⟩) (rc_preV hT hW hK hE hS (rc_t_9_1 hT h0) (by decide) rfl (q := (RX1, TX1, 14)) rfl [.ref (rf a0 3)]) rfl rfl hl.1 rfl (lv_room (Nat.le_of_ble_eq_true rfl)) dX8_restore_23 ⟨Nat.le_of_ble_eq_true rfl, Nat.le_of_ble_eq_true rfl⟩) (fun H locs hW hS => ?_)
    have hm := hm0
    clear hm0 hc_1
    refine lv_aload_n hx hb dX8_restore_26 rfl (lv_at hl 0 rfl) ?_
    refine rg_9_5 hx hb hts hown hK hW h0 tw_2_87 dX8_restore_27 ?_
    obtain ⟨w_2, σ_2, hc_2, hm0⟩ := rc_bd_inv hm
    clear hm
    refine rc_cv hS (va_runV (As := []) (rest := []) ⟨hx, hb, hml, hown, hts⟩ (k_X2_forget l hT (rf a0 5) (rc_t_9_5 hT h0) H.size _ _ _ hc_2) (cwV 0 hts (rc_gV tw_7_93 tw_7_94 tw_7_95 tw_1_8 tw_7_96) rfl rfl rfl (by decide +kernel) ⟨Nat.le_of_ble_eq_true rfl, Nat.le_of_ble_eq_true rfl⟩) (rc_preV hT hW hK hE hS (rc_t_9_5 hT h0) (by decide) rfl (q := (RX2, TX2, 3)) rfl []) rfl rfl hl.1 rfl (lv_room (Nat.le_of_ble_eq_true rfl)) dX8_restore_30 ⟨Nat.le_of_ble_eq_true rfl, Nat.le_of_ble_eq_true rfl⟩) (fun H locs hW hS => ?_)
    have hm := hm0
    clear hm0 hc_2
    refine lv_aload_n hx hb dX8_restore_33 rfl (lv_at hl 0 rfl) ?_
    refine rg_9_1 hx hb hts hown hK hW h0 tw_2_83 dX8_restore_34 ?_
    refine rg_2_2 hx hb hts hown hK hW (rc_t_9_1 hT h0) tw_1_148 dX8_restore_37 ?_
    exact rc_xiret hx hb hr hlocks hW hS (Nat.le_of_ble_eq_true rfl) (Nat.le_of_ble_eq_true rfl) hm dX8_restore_40
  · replace hm := rc_t hm c_3
    exact rc_throw (n := 5) hx hb hl9 hT hE hW hS hts hown rfl (by decide) (by decide) rc_hk_5 rc_hi_5 (rc_hat_5 hts hE) rc_hgd_5 (hl.1.trans hml.symm) dX8_restore_7 dX8_restore_10 dX8_restore_11 dX8_restore_14 hout ⟨Nat.le_of_ble_eq_true rfl, Nat.le_of_ble_eq_true rfl, Nat.le_of_ble_eq_true rfl, Nat.le_of_ble_eq_true rfl⟩ hlocks (Nat.le_of_ble_eq_true rfl) (Nat.le_of_ble_eq_true rfl) hm
set_option maxHeartbeats 4000000 in
set_option maxRecDepth 100000 in
theorem k_X8_unnoticed (l : Launch) (hl9 : l.stackTraces = false) {Y : rc_Y} {sh : Nat → Nat} {rf : rc_F} (hT : rc_T Y sh rf) (a0 : Nat) (u1 : Int32) (h0 : sh a0 = 9) (sz : Nat) (σ σ' : rc_S) (k : Nat) (r : Nat) (hm : f_X8_unnoticed rf a0 u1 σ = some (k, r, σ')) : vx_Met l yX8_unnoticed (Cond.code yX8_unnoticed cX8_unnoticed 3 (some (.object "RainCellar$Barrel")) :: rc_big) ({ frames := 8, cells := 3, slots := 18, locals := 124 } : Room) (rc_P Y sh rf σ sz [.ref a0, .int u1]) (va_Qr (fun (_ : Unit) => k = 0) (fun _ a t => (a = r ∧ sh a = 1) ∧ rc_W Y sh rf σ' t.heap) (rc_A sh sz)) (rc_XC Y sh rf σ' k sz) 3 18 (rc_A sh sz) := by
  refine vx_ofW (cc := cX8_unnoticed) (maxL := 3) (ret := (some (.object "RainCellar$Barrel"))) (by decide +kernel) rfl ?_
  intro p e s m args below meth c s₁ B hml hout hv
  obtain ⟨rfl, hsz, hW, hK, hE⟩ := hv
  have hx := B.exec
  have hb := B.bytes
  have hr := B.returns
  have hts : ∀ w ∈ rc_big, w.before _ s = true := fun w h => atoms_spec (ws := Cond.code yX8_unnoticed cX8_unnoticed 3 (some (.object "RainCellar$Barrel")) :: rc_big) B.pre w (List.mem_cons_of_mem _ h)
  have hown : s.vm.findClass RX8 = some m.cls := findClass_of_methodNamed B.named
  have hlocks := B.notSynchronized
  clear B
  subst hsz
  have hS : va_S (rc_A sh s.heap.size) s.heap s.heap [] := va_S.rf
  have hl := lv_entry ([.ref a0, .int u1]) (n := 3) (Nat.le_of_ble_eq_true rfl)
  rw [lg_entry_eq]
  generalize (lg_sl ([.ref a0, .int u1]) ++ List.replicate (3 - (lg_sl ([.ref a0, .int u1])).length) Slot.unset).toArray = ls at hl ⊢
  have hl : lv_has ls 3 [(0, .ref a0), (1, .int u1)] := hl
  unfold f_X8_unnoticed at hm
  refine lv_aload_n hx hb dX8_unnoticed_0 rfl (lv_at hl 0 rfl) ?_
  refine lv_iload_n hx hb dX8_unnoticed_1 rfl (lv_at hl 1 rfl) ?_
  obtain ⟨k_1, w_1, σ_1, hc_1, hm0, hk_1⟩ := rc_bx_inv hm
  clear hm
  refine rc_xcr hout hlocks hS hk_1 (Nat.le_of_ble_eq_true rfl) (Nat.le_of_ble_eq_true rfl) (vx_runV (As := [.int u1]) (rest := []) ⟨hx, hb, hml, hown, hts⟩ (k_X8_filled l hl9 hT a0 u1 h0 s.heap.size _ _ _ _ hc_1) (cwV 1 hts (rc_gV tw_2_205 tw_2_207 tw_p_1 tw_1_1 tw_2_208) rfl rfl rfl (by decide +kernel) ⟨Nat.le_of_ble_eq_true rfl, Nat.le_of_ble_eq_true rfl⟩) (rc_preV hT hW hK hE hS h0 (by decide) rfl (q := (RX8, TX8, 9)) rfl [.int u1]) rfl rfl hl.1 rfl (lv_room (Nat.le_of_ble_eq_true rfl)) dX8_unnoticed_2 ⟨Nat.le_of_ble_eq_true rfl, Nat.le_of_ble_eq_true rfl⟩) (fun H locs h0_1 hr_1 hW hS => ?_)
  have hm := hm0 h0_1
  clear hm0 hc_1 hk_1
  refine lv_astore_n (lv' := [(2, .ref w_1), (0, .ref a0), (1, .int u1)]) hx hb dX8_unnoticed_5 rfl hl (by decide) rfl (fun ls hl => ?_)
  refine lv_aload_n hx hb dX8_unnoticed_6 rfl (lv_at hl 1 rfl) ?_
  refine rg_9_1 hx hb hts hown hK hW h0 tw_2_83 dX8_unnoticed_7 ?_
  refine rg_2_3 hx hb hts hown hK hW (rc_t_9_1 hT h0) tw_1_151 dX8_unnoticed_10 ?_
  refine lv_aload_n hx hb dX8_unnoticed_13 rfl (lv_at hl 0 rfl) ?_
  obtain ⟨w_2, σ_2, hc_2, hm0⟩ := rc_bd_inv hm
  clear hm
  refine rc_ci hS (va_runV (As := []) (rest := [.ref (rf (rf a0 1) 3)]) ⟨hx, hb, hml, hown, hts⟩ (k_X0_hailPart l hT w_1 hr_1 H.size _ _ _ hc_2) (cwV 0 hts (rc_gV tw_3_52 tw_3_38 tw_3_39 tw_1_5 tw_3_40) rfl rfl rfl (by decide +kernel) ⟨Nat.le_of_ble_eq_true rfl, Nat.le_of_ble_eq_true rfl⟩) (rc_preV hT hW hK hE hS hr_1 (by decide) rfl (q := (RX0, TX0, 6)) rfl []) rfl rfl hl.1 rfl (lv_room (Nat.le_of_ble_eq_true rfl)) dX8_unnoticed_14 ⟨Nat.le_of_ble_eq_true rfl, Nat.le_of_ble_eq_true rfl⟩) (fun H locs hW hS => ?_)
  have hm := hm0
  clear hm0 hc_2
  obtain ⟨w_3, σ_3, hc_3, hm0⟩ := rc_bd_inv hm
  clear hm
  refine rc_ci hS (va_runV (As := [.int w_2]) (rest := []) ⟨hx, hb, hml, hown, hts⟩ (k_X3_thoseWhoNotice l hT (rf (rf a0 1) 3) w_2 (rc_t_2_3 hT (rc_t_9_1 hT h0)) H.size _ _ _ hc_3) (cwV 1 hts (rc_gV tw_3_53 tw_3_54 tw_3_55 tw_1_4 tw_3_56) rfl rfl rfl (by decide +kernel) ⟨Nat.le_of_ble_eq_true rfl, Nat.le_of_ble_eq_true rfl⟩) (rc_preV hT hW hK hE hS (rc_t_2_3 hT (rc_t_9_1 hT h0)) (by decide) rfl (q := (RX3, TX3, 3)) rfl [.int w_2]) rfl rfl hl.1 rfl (lv_room (Nat.le_of_ble_eq_true rfl)) dX8_unnoticed_17 ⟨Nat.le_of_ble_eq_true rfl, Nat.le_of_ble_eq_true rfl⟩) (fun H locs hW hS => ?_)
  have hm := hm0
  clear hm0 hc_3
  refine lv_if_eq (tgt := 31) hx hb dX8_unnoticed_20 (by decide) (fun c_4 => ?_) (fun c_4 => ?_)
  · replace hm := rc_t hm c_4
    refine lv_aload_n hx hb dX8_unnoticed_31 rfl (lv_at hl 0 rfl) ?_
    exact rc_xaret hx hb hr hlocks hW hS (Nat.le_of_ble_eq_true rfl) (Nat.le_of_ble_eq_true rfl) hr_1 hm dX8_unnoticed_32
  · replace hm := rc_f hm c_4
    exact rc_throw (n := 4) hx hb hl9 hT hE hW hS hts hown rfl (by decide) (by decide) rc_hk_4 rc_hi_4 (rc_hat_4 hts hE) rc_hgd_4 (hl.1.trans hml.symm) dX8_unnoticed_23 dX8_unnoticed_26 dX8_unnoticed_27 dX8_unnoticed_30 hout ⟨Nat.le_of_ble_eq_true rfl, Nat.le_of_ble_eq_true rfl, Nat.le_of_ble_eq_true rfl, Nat.le_of_ble_eq_true rfl⟩ hlocks (Nat.le_of_ble_eq_true rfl) (Nat.le_of_ble_eq_true rfl) hm
set_option maxHeartbeats 4000000 in
set_option maxRecDepth 100000 in
theorem k_X0_noteAtAge (l : Launch) {Y : rc_Y} {sh : Nat → Nat} {rf : rc_F} (hT : rc_T Y sh rf) (a0 : Nat) (u1 : Int32) (h0 : sh a0 = 1) (sz : Nat) (σ σ' : rc_S) (r : Int32) (hm : f_X0_noteAtAge rf a0 u1 σ = some (r, σ')) : Met l yX0_noteAtAge (Cond.code yX0_noteAtAge cX0_noteAtAge 2 (some .int) :: rc_big) ({ frames := 3, cells := 0, slots := 0, locals := 63 } : Room) (rc_P Y sh rf σ sz [.ref a0, .int u1]) (va_Qi (fun (r' : Int32) (_ : Unit) => r' = r) (fun _ t => rc_W Y sh rf σ' t.heap) (rc_A sh sz)) 0 0 (rc_A sh sz) := by
  refine Met.ofW (cc := cX0_noteAtAge) (maxL := 2) (ret := (some .int)) (by decide +kernel) rfl ?_
  intro p e s m args below meth c s₁ B hml hv
  obtain ⟨rfl, hsz, hW, hK, hE⟩ := hv
  have hx := B.exec
  have hb := B.bytes
  have hr := B.returns
  have hts : ∀ w ∈ rc_big, w.before _ s = true := fun w h => atoms_spec (ws := Cond.code yX0_noteAtAge cX0_noteAtAge 2 (some .int) :: rc_big) B.pre w (List.mem_cons_of_mem _ h)
  have hown : s.vm.findClass RX0 = some m.cls := findClass_of_methodNamed B.named
  have hlocks := B.notSynchronized
  clear B
  subst hsz
  have hS : va_S (rc_A sh s.heap.size) s.heap s.heap [] := va_S.rf
  have hl := lv_entry ([.ref a0, .int u1]) (n := 2) (Nat.le_of_ble_eq_true rfl)
  rw [lg_entry_eq]
  generalize (lg_sl ([.ref a0, .int u1]) ++ List.replicate (2 - (lg_sl ([.ref a0, .int u1])).length) Slot.unset).toArray = ls at hl ⊢
  have hl : lv_has ls 2 [(0, .ref a0), (1, .int u1)] := hl
  unfold f_X0_noteAtAge at hm
  refine lv_aload_n hx hb dX0_noteAtAge_0 rfl (lv_at hl 0 rfl) ?_
  refine lv_aload_n hx hb dX0_noteAtAge_1 rfl (lv_at hl 0 rfl) ?_
  refine rg_1_5 hx hb hts hown hK hW h0 tw_1_103 dX0_noteAtAge_2 ?_
  refine lv_iload_n hx hb dX0_noteAtAge_5 rfl (lv_at hl 1 rfl) ?_
  refine lv_iconst (v := 2) hx hb dX0_noteAtAge_6 (by decide) ?_
  refine lv_idiv hx hb dX0_noteAtAge_7 (by decide) ?_
  refine lv_iadd hx hb dX0_noteAtAge_8 ?_
  refine lv_bipush (v := 9) hx hb dX0_noteAtAge_9 (by decide) ?_
  refine va_mmin hx hb (hml.trans hl.1.symm) hown (hts _ tw_3_30) (hts _ tw_3_31) (hts _ tw_1_22) (hts _ tw_3_32) (Nat.le_of_ble_eq_true rfl) (Nat.le_of_ble_eq_true rfl) (Nat.le_of_ble_eq_true rfl) (Nat.le_of_ble_eq_true rfl) dX0_noteAtAge_11 ?_
  obtain ⟨w_1, σ_1, hc_1, hm0⟩ := rc_bd_inv hm
  clear hm
  refine rc_ci hS (va_runV (As := [.int (if (9 : Int32) < ((σ a0 5) + (u1 / (2 : Int32))) then (9 : Int32) else ((σ a0 5) + (u1 / (2 : Int32))))]) (rest := []) ⟨hx, hb, hml, hown, hts⟩ (k_X0_noteOfTaste l hT a0 (if (9 : Int32) < ((σ a0 5) + (u1 / (2 : Int32))) then (9 : Int32) else ((σ a0 5) + (u1 / (2 : Int32)))) h0 s.heap.size _ _ _ hc_1) (cwV 1 hts (rc_gV tw_3_33 tw_3_35 tw_p_3 tw_1_5 tw_3_36) rfl rfl rfl (by decide +kernel) ⟨Nat.le_of_ble_eq_true rfl, Nat.le_of_ble_eq_true rfl⟩) (rc_preV hT hW hK hE hS h0 (by decide) rfl (q := (RX0, TX0, 6)) rfl [.int (if (9 : Int32) < ((σ a0 5) + (u1 / (2 : Int32))) then (9 : Int32) else ((σ a0 5) + (u1 / (2 : Int32))))]) rfl rfl hl.1 rfl (lv_room (Nat.le_of_ble_eq_true rfl)) dX0_noteAtAge_14 ⟨Nat.le_of_ble_eq_true rfl, Nat.le_of_ble_eq_true rfl⟩) (fun H locs hW hS => ?_)
  have hm := hm0
  clear hm0 hc_1
  exact rc_eiret hx hb hr hlocks hW hS (Nat.le_of_ble_eq_true rfl) (Nat.le_of_ble_eq_true rfl) hm dX0_noteAtAge_17
set_option maxHeartbeats 4000000 in
set_option maxRecDepth 100000 in
theorem k_X0_noteYearByYear (l : Launch) {Y : rc_Y} {sh : Nat → Nat} {rf : rc_F} (hT : rc_T Y sh rf) (a0 : Nat) (u1 : Int32) (h0 : sh a0 = 1) (sz : Nat) (σ σ' : rc_S) (r : Int32) (hm : f_X0_noteYearByYear rf a0 u1 σ = some (r, σ')) : Met l yX0_noteYearByYear (Cond.code yX0_noteYearByYear cX0_noteYearByYear 4 (some .int) :: rc_big) ({ frames := 3, cells := 0, slots := 0, locals := 63 } : Room) (rc_P Y sh rf σ sz [.ref a0, .int u1]) (va_Qi (fun (r' : Int32) (_ : Unit) => r' = r) (fun _ t => rc_W Y sh rf σ' t.heap) (rc_A sh sz)) 0 0 (rc_A sh sz) := by
  refine Met.ofW (cc := cX0_noteYearByYear) (maxL := 4) (ret := (some .int)) (by decide +kernel) rfl ?_
  intro p e s m args below meth c s₁ B hml hv
  obtain ⟨rfl, hsz, hW, hK, hE⟩ := hv
  have hx := B.exec
  have hb := B.bytes
  have hr := B.returns
  have hts : ∀ w ∈ rc_big, w.before _ s = true := fun w h => atoms_spec (ws := Cond.code yX0_noteYearByYear cX0_noteYearByYear 4 (some .int) :: rc_big) B.pre w (List.mem_cons_of_mem _ h)
  have hown : s.vm.findClass RX0 = some m.cls := findClass_of_methodNamed B.named
  have hlocks := B.notSynchronized
  clear B
  subst hsz
  have hS : va_S (rc_A sh s.heap.size) s.heap s.heap [] := va_S.rf
  have hl := lv_entry ([.ref a0, .int u1]) (n := 4) (Nat.le_of_ble_eq_true rfl)
  rw [lg_entry_eq]
  generalize (lg_sl ([.ref a0, .int u1]) ++ List.replicate (4 - (lg_sl ([.ref a0, .int u1])).length) Slot.unset).toArray = ls at hl ⊢
  have hl : lv_has ls 4 [(0, .ref a0), (1, .int u1)] := hl
  have lp_7 : ∀ (v1 : Int32) (K : Int32 → Int32 → rc_S → Option (Int32 × rc_S)) (hKK : ∀ (v2 v3 : Int32) (σ : rc_S) (H : Heap) (locs : List Loc) (ls : Array Slot), K v2 v3 σ = some (r, σ') → rc_W Y sh rf σ H → va_S (rc_A sh s.heap.size) s.heap H locs → lv_has ls 4 [(0, .ref a0), (2, .int v2)] → W p l e (headSpec (Cond.code yX0_noteYearByYear cX0_noteYearByYear 4 (some .int) :: rc_big) ({ frames := 3, cells := 0, slots := 0, locals := 63 } : Room)).room s m (([.ref a0, .int u1] : List Value).toArray) below meth c H locs 0 0 (MQ below (va_Qi (fun (r' : Int32) (_ : Unit) => r' = r) (fun _ t => rc_W Y sh rf σ' t.heap) (rc_A sh s.heap.size)) ([.ref a0, .int u1] : List Value).toArray s 0 0 (rc_A sh s.heap.size)) (F0 m 33 ls [])) (n : Nat) (v2 v3 : Int32) (σ : rc_S) (H : Heap) (locs : List Loc) (ls : Array Slot), f_X0_noteYearByYear_7 rf a0 v1 K n v2 v3 σ = some (r, σ') → rc_W Y sh rf σ H → va_S (rc_A sh s.heap.size) s.heap H locs → lv_has ls 4 [(0, .ref a0), (1, .int v1), (2, .int v2), (3, .int v3)] → W p l e (headSpec (Cond.code yX0_noteYearByYear cX0_noteYearByYear 4 (some .int) :: rc_big) ({ frames := 3, cells := 0, slots := 0, locals := 63 } : Room)).room s m (([.ref a0, .int u1] : List Value).toArray) below meth c H locs 0 0 (MQ below (va_Qi (fun (r' : Int32) (_ : Unit) => r' = r) (fun _ t => rc_W Y sh rf σ' t.heap) (rc_A sh s.heap.size)) ([.ref a0, .int u1] : List Value).toArray s 0 0 (rc_A sh s.heap.size)) (F0 m 7 ls []) := by
    intro v1 K hKK n
    induction n with
    | zero =>
      intro v2 v3 σ H locs ls hm
      rw [f_X0_noteYearByYear_7] at hm
      cases hm
    | succ n ih =>
      intro v2 v3 σ H locs ls hm hW hS hl
      rw [f_X0_noteYearByYear_7] at hm
      refine lv_iload_n hx hb dX0_noteYearByYear_7 rfl (lv_at hl 3 rfl) ?_
      refine lv_iload_n hx hb dX0_noteYearByYear_8 rfl (lv_at hl 1 rfl) ?_
      refine lv_icmp_gt (tgt := 33) hx hb dX0_noteYearByYear_9 (by decide) (fun c_8 => ?_) (fun c_8 => ?_)
      · replace hm := rc_t hm c_8
        exact hKK v2 v3 σ _ _ _ hm hW hS (lv_sub hl [0, 2] rfl)
      · replace hm := rc_f hm c_8
        refine lv_iload_n hx hb dX0_noteYearByYear_12 rfl (lv_at hl 3 rfl) ?_
        refine lv_iconst (v := 2) hx hb dX0_noteYearByYear_13 (by decide) ?_
        refine lv_irem hx hb dX0_noteYearByYear_14 (by decide) ?_
        refine lv_if_ne (tgt := 27) hx hb dX0_noteYearByYear_15 (by decide) (fun c_7 => ?_) (fun c_7 => ?_)
        · replace hm := rc_f hm c_7
          obtain ⟨v3_2, ev⟩ : ∃ y : Int32, y = (v3 + 1) := ⟨_, rfl⟩
          replace hm := rc_lt_at hm ev
          refine lv_iinc (v := v3_2) (lv' := [(3, .int v3_2), (0, .ref a0), (1, .int v1), (2, .int v2)]) hx hb dX0_noteYearByYear_27 hl (k := 3) rfl (by rw [ev]; rfl) (by decide) rfl (fun ls hl => ?_)
          clear ev
          refine lv_goto (tgt := 7) hx hb dX0_noteYearByYear_30 (by decide) ?_
          exact ih v2 v3_2 σ _ _ _ hm hW hS (lv_sub hl [1, 2, 3, 0] rfl)
        · replace hm := rc_t hm c_7
          refine lv_iload_n hx hb dX0_noteYearByYear_18 rfl (lv_at hl 2 rfl) ?_
          refine lv_bipush (v := 9) hx hb dX0_noteYearByYear_19 (by decide) ?_
          refine lv_icmp_ge (tgt := 27) hx hb dX0_noteYearByYear_21 (by decide) (fun c_6 => ?_) (fun c_6 => ?_)
          · replace hm := rc_t hm c_6
            obtain ⟨v3_3, ev⟩ : ∃ y : Int32, y = (v3 + 1) := ⟨_, rfl⟩
            replace hm := rc_lt_at hm ev
            refine lv_iinc (v := v3_3) (lv' := [(3, .int v3_3), (0, .ref a0), (1, .int v1), (2, .int v2)]) hx hb dX0_noteYearByYear_27 hl (k := 3) rfl (by rw [ev]; rfl) (by decide) rfl (fun ls hl => ?_)
            clear ev
            refine lv_goto (tgt := 7) hx hb dX0_noteYearByYear_30 (by decide) ?_
            exact ih v2 v3_3 σ _ _ _ hm hW hS (lv_sub hl [1, 2, 3, 0] rfl)
          · replace hm := rc_f hm c_6
            obtain ⟨v2_4, ev⟩ : ∃ y : Int32, y = (v2 + 1) := ⟨_, rfl⟩
            replace hm := rc_lt_at hm ev
            refine lv_iinc (v := v2_4) (lv' := [(2, .int v2_4), (0, .ref a0), (1, .int v1), (3, .int v3)]) hx hb dX0_noteYearByYear_24 hl (k := 2) rfl (by rw [ev]; rfl) (by decide) rfl (fun ls hl => ?_)
            clear ev
            obtain ⟨v3_5, ev⟩ : ∃ y : Int32, y = (v3 + 1) := ⟨_, rfl⟩
            replace hm := rc_lt_at hm ev
            refine lv_iinc (v := v3_5) (lv' := [(3, .int v3_5), (2, .int v2_4), (0, .ref a0), (1, .int v1)]) hx hb dX0_noteYearByYear_27 hl (k := 3) rfl (by rw [ev]; rfl) (by decide) rfl (fun ls hl => ?_)
            clear ev
            refine lv_goto (tgt := 7) hx hb dX0_noteYearByYear_30 (by decide) ?_
            exact ih v2_4 v3_5 σ _ _ _ hm hW hS (lv_sub hl [2, 3, 1, 0] rfl)
  unfold f_X0_noteYearByYear at hm
  refine lv_aload_n hx hb dX0_noteYearByYear_0 rfl (lv_at hl 0 rfl) ?_
  refine rg_1_5 hx hb hts hown hK hW h0 tw_1_103 dX0_noteYearByYear_1 ?_
  refine lv_topi (fun v2_1 ev => ?_)
  replace hm := rc_lt_at hm ev
  clear ev
  refine lv_istore_n (lv' := [(2, .int v2_1), (0, .ref a0), (1, .int u1)]) hx hb dX0_noteYearByYear_4 rfl hl (by decide) rfl (fun ls hl => ?_)
  refine lv_iconst (v := 1) hx hb dX0_noteYearByYear_5 (by decide) ?_
  refine lv_istore_n (lv' := [(3, .int (1 : Int32)), (2, .int v2_1), (0, .ref a0), (1, .int u1)]) hx hb dX0_noteYearByYear_6 rfl hl (by decide) rfl (fun ls hl => ?_)
  refine lp_7 u1 _ (fun v2_9 v3_10 σ_11 H locs ls hm hW hS hl => ?_) rc_fu v2_1 (1 : Int32) σ _ _ _ hm hW hS (lv_sub hl [2, 3, 1, 0] rfl)
  refine lv_aload_n hx hb dX0_noteYearByYear_33 rfl (lv_at hl 0 rfl) ?_
  refine lv_iload_n hx hb dX0_noteYearByYear_34 rfl (lv_at hl 1 rfl) ?_
  obtain ⟨w_12, σ_12, hc_12, hm0⟩ := rc_bd_inv hm
  clear hm
  refine rc_ci hS (va_runV (As := [.int v2_9]) (rest := []) ⟨hx, hb, hml, hown, hts⟩ (k_X0_noteOfTaste l hT a0 v2_9 h0 H.size _ _ _ hc_12) (cwV 1 hts (rc_gV tw_3_33 tw_3_35 tw_p_3 tw_1_5 tw_3_36) rfl rfl rfl (by decide +kernel) ⟨Nat.le_of_ble_eq_true rfl, Nat.le_of_ble_eq_true rfl⟩) (rc_preV hT hW hK hE hS h0 (by decide) rfl (q := (RX0, TX0, 6)) rfl [.int v2_9]) rfl rfl hl.1 rfl (lv_room (Nat.le_of_ble_eq_true rfl)) dX0_noteYearByYear_35 ⟨Nat.le_of_ble_eq_true rfl, Nat.le_of_ble_eq_true rfl⟩) (fun H locs hW hS => ?_)
  have hm := hm0
  clear hm0 hc_12
  exact rc_eiret hx hb hr hlocks hW hS (Nat.le_of_ble_eq_true rfl) (Nat.le_of_ble_eq_true rfl) hm dX0_noteYearByYear_38
set_option maxHeartbeats 4000000 in
set_option maxRecDepth 100000 in
theorem k_X0_takeOut (l : Launch) {Y : rc_Y} {sh : Nat → Nat} {rf : rc_F} (hT : rc_T Y sh rf) (a0 : Nat) (u1 : Int32) (h0 : sh a0 = 1) (sz : Nat) (σ σ' : rc_S) (r : Int32) (hm : f_X0_takeOut rf a0 u1 σ = some (r, σ')) : Met l yX0_takeOut (Cond.code yX0_takeOut cX0_takeOut 3 (some .int) :: rc_big) ({ frames := 3, cells := 0, slots := 0, locals := 64 } : Room) (rc_P Y sh rf σ sz [.ref a0, .int u1]) (va_Qi (fun (r' : Int32) (_ : Unit) => r' = r) (fun _ t => rc_W Y sh rf σ' t.heap) (rc_A sh sz)) 0 0 (rc_A sh sz) := by
  refine Met.ofW (cc := cX0_takeOut) (maxL := 3) (ret := (some .int)) (by decide +kernel) rfl ?_
  intro p e s m args below meth c s₁ B hml hv
  obtain ⟨rfl, hsz, hW, hK, hE⟩ := hv
  have hx := B.exec
  have hb := B.bytes
  have hr := B.returns
  have hts : ∀ w ∈ rc_big, w.before _ s = true := fun w h => atoms_spec (ws := Cond.code yX0_takeOut cX0_takeOut 3 (some .int) :: rc_big) B.pre w (List.mem_cons_of_mem _ h)
  have hown : s.vm.findClass RX0 = some m.cls := findClass_of_methodNamed B.named
  have hlocks := B.notSynchronized
  clear B
  subst hsz
  have hS : va_S (rc_A sh s.heap.size) s.heap s.heap [] := va_S.rf
  have hl := lv_entry ([.ref a0, .int u1]) (n := 3) (Nat.le_of_ble_eq_true rfl)
  rw [lg_entry_eq]
  generalize (lg_sl ([.ref a0, .int u1]) ++ List.replicate (3 - (lg_sl ([.ref a0, .int u1])).length) Slot.unset).toArray = ls at hl ⊢
  have hl : lv_has ls 3 [(0, .ref a0), (1, .int u1)] := hl
  unfold f_X0_takeOut at hm
  refine lv_aload_n hx hb dX0_takeOut_0 rfl (lv_at hl 0 rfl) ?_
  refine lv_iload_n hx hb dX0_takeOut_1 rfl (lv_at hl 1 rfl) ?_
  obtain ⟨w_1, σ_1, hc_1, hm0⟩ := rc_bd_inv hm
  clear hm
  refine rc_ci hS (va_runV (As := [.int u1]) (rest := []) ⟨hx, hb, hml, hown, hts⟩ (k_X0_hailIn l hT a0 u1 h0 s.heap.size _ _ _ hc_1) (cwV 1 hts (rc_gV tw_4_108 tw_4_110 tw_p_9 tw_1_5 tw_4_111) rfl rfl rfl (by decide +kernel) ⟨Nat.le_of_ble_eq_true rfl, Nat.le_of_ble_eq_true rfl⟩) (rc_preV hT hW hK hE hS h0 (by decide) rfl (q := (RX0, TX0, 6)) rfl [.int u1]) rfl rfl hl.1 rfl (lv_room (Nat.le_of_ble_eq_true rfl)) dX0_takeOut_2 ⟨Nat.le_of_ble_eq_true rfl, Nat.le_of_ble_eq_true rfl⟩) (fun H locs hW hS => ?_)
  have hm := hm0
  clear hm0 hc_1
  refine lv_istore_n (lv' := [(2, .int w_1), (0, .ref a0), (1, .int u1)]) hx hb dX0_takeOut_5 rfl hl (by decide) rfl (fun ls hl => ?_)
  refine lv_aload_n hx hb dX0_takeOut_6 rfl (lv_at hl 1 rfl) ?_
  refine lv_dup hx hb dX0_takeOut_7 rfl ?_
  refine rg_1_1 hx hb hts hown hK hW h0 tw_1_89 dX0_takeOut_8 ?_
  refine lv_iload_n hx hb dX0_takeOut_11 rfl (lv_at hl 2 rfl) ?_
  refine lv_isub hx hb dX0_takeOut_12 ?_
  refine rp_1_1 hx hb hts hown hK hW hS h0 tw_1_89 dX0_takeOut_13 (fun σ_2 H locs eσ hW hS => ?_)
  replace hm := rc_lt_at hm eσ
  clear eσ
  refine lv_aload_n hx hb dX0_takeOut_16 rfl (lv_at hl 1 rfl) ?_
  refine lv_dup hx hb dX0_takeOut_17 rfl ?_
  refine rg_1_2 hx hb hts hown hK hW h0 tw_1_93 dX0_takeOut_18 ?_
  refine lv_iload_n hx hb dX0_takeOut_21 rfl (lv_at hl 0 rfl) ?_
  refine lv_isub hx hb dX0_takeOut_22 ?_
  refine rp_1_2 hx hb hts hown hK hW hS h0 tw_1_93 dX0_takeOut_23 (fun σ_3 H locs eσ hW hS => ?_)
  replace hm := rc_lt_at hm eσ
  clear eσ
  refine lv_aload_n hx hb dX0_takeOut_26 rfl (lv_at hl 1 rfl) ?_
  refine rg_1_1 hx hb hts hown hK hW h0 tw_1_89 dX0_takeOut_27 ?_
  refine lv_if_ne (tgt := 37) hx hb dX0_takeOut_30 (by decide) (fun c_5 => ?_) (fun c_5 => ?_)
  · replace hm := rc_f hm c_5
    refine lv_iload_n hx hb dX0_takeOut_37 rfl (lv_at hl 0 rfl) ?_
    exact rc_eiret hx hb hr hlocks hW hS (Nat.le_of_ble_eq_true rfl) (Nat.le_of_ble_eq_true rfl) hm dX0_takeOut_38
  · replace hm := rc_t hm c_5
    refine lv_aload_n hx hb dX0_takeOut_33 rfl (lv_at hl 1 rfl) ?_
    obtain ⟨w_4, σ_4, hc_4, hm0⟩ := rc_bd_inv hm
    clear hm
    refine rc_cv hS (va_runV (As := []) (rest := []) ⟨hx, hb, hml, hown, hts⟩ (k_X0_makeEmpty l hT a0 h0 H.size _ _ _ hc_4) (cwV 0 hts (rc_gV tw_4_113 tw_3_189 tw_3_190 tw_1_5 tw_3_191) rfl rfl rfl (by decide +kernel) ⟨Nat.le_of_ble_eq_true rfl, Nat.le_of_ble_eq_true rfl⟩) (rc_preV hT hW hK hE hS h0 (by decide) rfl (q := (RX0, TX0, 6)) rfl []) rfl rfl hl.1 rfl (lv_room (Nat.le_of_ble_eq_true rfl)) dX0_takeOut_34 ⟨Nat.le_of_ble_eq_true rfl, Nat.le_of_ble_eq_true rfl⟩) (fun H locs hW hS => ?_)
    have hm := hm0
    clear hm0 hc_4
    refine lv_iload_n hx hb dX0_takeOut_37 rfl (lv_at hl 0 rfl) ?_
    exact rc_eiret hx hb hr hlocks hW hS (Nat.le_of_ble_eq_true rfl) (Nat.le_of_ble_eq_true rfl) hm dX0_takeOut_38
set_option maxHeartbeats 4000000 in
set_option maxRecDepth 100000 in
theorem k_X1_noteOf (l : Launch) {Y : rc_Y} {sh : Nat → Nat} {rf : rc_F} (hT : rc_T Y sh rf) (a0 : Nat) (q1 : Nat) (h0 : sh a0 = 2) (hq1 : sh q1 = 1) (sz : Nat) (σ σ' : rc_S) (r : Int32) (hm : f_X1_noteOf rf a0 q1 σ = some (r, σ')) : Met l yX1_noteOf (Cond.code yX1_noteOf cX1_noteOf 2 (some .int) :: rc_big) ({ frames := 4, cells := 0, slots := 0, locals := 84 } : Room) (rc_P Y sh rf σ sz [.ref a0, .ref q1]) (va_Qi (fun (r' : Int32) (_ : Unit) => r' = r) (fun _ t => rc_W Y sh rf σ' t.heap) (rc_A sh sz)) 0 0 (rc_A sh sz) := by
  refine Met.ofW (cc := cX1_noteOf) (maxL := 2) (ret := (some .int)) (by decide +kernel) rfl ?_
  intro p e s m args below meth c s₁ B hml hv
  obtain ⟨rfl, hsz, hW, hK, hE⟩ := hv
  have hx := B.exec
  have hb := B.bytes
  have hr := B.returns
  have hts : ∀ w ∈ rc_big, w.before _ s = true := fun w h => atoms_spec (ws := Cond.code yX1_noteOf cX1_noteOf 2 (some .int) :: rc_big) B.pre w (List.mem_cons_of_mem _ h)
  have hown : s.vm.findClass RX1 = some m.cls := findClass_of_methodNamed B.named
  have hlocks := B.notSynchronized
  clear B
  subst hsz
  have hS : va_S (rc_A sh s.heap.size) s.heap s.heap [] := va_S.rf
  have hl := lv_entry ([.ref a0, .ref q1]) (n := 2) (Nat.le_of_ble_eq_true rfl)
  rw [lg_entry_eq]
  generalize (lg_sl ([.ref a0, .ref q1]) ++ List.replicate (2 - (lg_sl ([.ref a0, .ref q1])).length) Slot.unset).toArray = ls at hl ⊢
  have hl : lv_has ls 2 [(0, .ref a0), (1, .ref q1)] := hl
  unfold f_X1_noteOf at hm
  refine lv_aload_n hx hb dX1_noteOf_0 rfl (lv_at hl 1 rfl) ?_
  refine lv_aload_n hx hb dX1_noteOf_1 rfl (lv_at hl 1 rfl) ?_
  refine lv_aload_n hx hb dX1_noteOf_2 rfl (lv_at hl 0 rfl) ?_
  refine rg_2_7 hx hb hts hown hK hW h0 tw_1_159 dX1_noteOf_3 ?_
  obtain ⟨w_1, σ_1, hc_1, hm0⟩ := rc_bd_inv hm
  clear hm
  refine rc_ci hS (va_runV (As := [.int (σ a0 7)]) (rest := [.ref q1]) ⟨hx, hb, hml, hown, hts⟩ (k_X0_ageIn l hT q1 (σ a0 7) hq1 s.heap.size _ _ _ hc_1) (cwV 1 hts (rc_gV tw_3_21 tw_3_22 tw_3_23 tw_1_5 tw_3_24) rfl rfl rfl (by decide +kernel) ⟨Nat.le_of_ble_eq_true rfl, Nat.le_of_ble_eq_true rfl⟩) (rc_preV hT hW hK hE hS hq1 (by decide) rfl (q := (RX0, TX0, 6)) rfl [.int (σ a0 7)]) rfl rfl hl.1 rfl (lv_room (Nat.le_of_ble_eq_true rfl)) dX1_noteOf_6 ⟨Nat.le_of_ble_eq_true rfl, Nat.le_of_ble_eq_true rfl⟩) (fun H locs hW hS => ?_)
  have hm := hm0
  clear hm0 hc_1
  obtain ⟨w_2, σ_2, hc_2, hm0⟩ := rc_bd_inv hm
  clear hm
  refine rc_ci hS (va_runV (As := [.int w_1]) (rest := []) ⟨hx, hb, hml, hown, hts⟩ (k_X0_noteAtAge l hT q1 w_1 hq1 H.size _ _ _ hc_2) (cwV 1 hts (rc_gV tw_3_26 tw_3_27 tw_3_28 tw_1_5 tw_3_29) rfl rfl rfl (by decide +kernel) ⟨Nat.le_of_ble_eq_true rfl, Nat.le_of_ble_eq_true rfl⟩) (rc_preV hT hW hK hE hS hq1 (by decide) rfl (q := (RX0, TX0, 6)) rfl [.int w_1]) rfl rfl hl.1 rfl (lv_room (Nat.le_of_ble_eq_true rfl)) dX1_noteOf_9 ⟨Nat.le_of_ble_eq_true rfl, Nat.le_of_ble_eq_true rfl⟩) (fun H locs hW hS => ?_)
  have hm := hm0
  clear hm0 hc_2
  exact rc_eiret hx hb hr hlocks hW hS (Nat.le_of_ble_eq_true rfl) (Nat.le_of_ble_eq_true rfl) hm dX1_noteOf_12
