def f_X1_measureOf (rf : rc_F) (a0 : Nat) (u1 : Int32) (u2 : Int32) (σ : rc_S) : Option (Int32 × rc_S) :=
  rc_ck (rc_in u1 8) <|
  if u2 = (0 : Int32) then
    some ((σ (rf (rf a0 1) u1.toNatClampNeg) 1), σ)
  else
  if u2 = (1 : Int32) then
    rc_bd (f_X1_noteOf rf a0 (rf (rf a0 1) u1.toNatClampNeg) σ) fun w_4 σ_4 =>
    some (w_4, σ_4)
  else
  if u2 = (2 : Int32) then
    rc_bd (f_X0_ageIn rf (rf (rf a0 1) u1.toNatClampNeg) (σ a0 7) σ) fun w_6 σ_6 =>
    some (w_6, σ_6)
  else
  rc_bd (f_X0_hailPart rf (rf (rf a0 1) u1.toNatClampNeg) σ) fun w_7 σ_7 =>
  some (w_7, σ_7)
def f_X1_placeOf_13 (rf : rc_F) (a0 : Nat) (v1 : Int32) (v2 : Int32) (v3 : Int32) (K : Int32 → Int32 → rc_S → Option (Int32 × rc_S)) : Nat → Int32 → Int32 → rc_S → Option (Int32 × rc_S)
  | 0, _, _, _ => none
  | n + 1, v4, v5, σ =>
    if (σ a0 2) ≤ v5 then
      K v4 v5 σ
    else
      rc_bd (f_X1_measureOf rf a0 v5 v2 σ) fun w_2 σ_2 =>
      if v3 < w_2 then
        rc_lt (v4 + (1 : Int32)) fun v4_3 =>
        rc_lt (v5 + 1) fun v5_4 =>
        f_X1_placeOf_13 rf a0 v1 v2 v3 K n v4_3 v5_4 σ_2
      else
        if w_2 = v3 then
          if v1 ≤ v5 then
            rc_lt (v4 + (0 : Int32)) fun v4_7 =>
            rc_lt (v5 + 1) fun v5_8 =>
            f_X1_placeOf_13 rf a0 v1 v2 v3 K n v4_7 v5_8 σ_2
          else
            rc_lt (v4 + (1 : Int32)) fun v4_9 =>
            rc_lt (v5 + 1) fun v5_10 =>
            f_X1_placeOf_13 rf a0 v1 v2 v3 K n v4_9 v5_10 σ_2
        else
          rc_lt (v4 + (0 : Int32)) fun v4_5 =>
          rc_lt (v5 + 1) fun v5_6 =>
          f_X1_placeOf_13 rf a0 v1 v2 v3 K n v4_5 v5_6 σ_2
def f_X1_placeOf (rf : rc_F) (a0 : Nat) (u1 : Int32) (u2 : Int32) (σ : rc_S) : Option (Int32 × rc_S) :=
  rc_bd (f_X1_measureOf rf a0 u1 u2 σ) fun w_1 σ_1 =>
  f_X1_placeOf_13 rf a0 u1 u2 w_1 (fun v4_15 v5_16 σ_17 =>
    some (v4_15, σ_17)
  ) rc_fu (0 : Int32) (0 : Int32) σ_1
def f_X6_readCommand_78 (rf : rc_F) (a0 : Nat) (r1 : Nat) (K : Int32 → rc_S → Option (Int32 × rc_S)) : Nat → Int32 → rc_S → Option (Int32 × rc_S)
  | 0, _, _ => none
  | n + 1, v2, σ =>
    rc_bd (f_J0_length_8abf5 rf r1 σ) fun w_10 σ_10 =>
    if w_10 ≤ v2 then
      K v2 σ_10
    else
      rc_bd (f_J0_charAt_5068e rf r1 v2 σ_10) fun w_11 σ_11 =>
      rc_bd (f_X6_readPart rf a0 w_11 σ_11) fun w_12 σ_12 =>
      if w_12 = 0 then
        some ((0 : Int32), σ_12)
      else
        rc_lt (v2 + 1) fun v2_13 =>
        f_X6_readCommand_78 rf a0 r1 K n v2_13 σ_12
def f_X6_readCommand (rf : rc_F) (a0 : Nat) (σ : rc_S) : Option (Int32 × rc_S) :=
  if (σ a0 1) ≤ (σ a0 5) then
    some ((0 : Int32), σ)
  else
    rc_ck (rc_in (σ a0 5) 60) <|
    rc_bd (f_J0_indexOf_0f7a4 rf 5 (σ (rf a0 0) (σ a0 5).toNatClampNeg) σ) fun w_2 σ_2 =>
    if 0 ≤ w_2 then
      rc_ck (rc_in (σ_2 a0 5) 60) <|
      rc_bd (f_X6_formOf rf (σ_2 (rf a0 0) (σ_2 a0 5).toNatClampNeg) σ_2) fun w_4 σ_4 =>
      rc_ck (decide (w_4 < 13)) <|
      rc_ck (rc_in (σ_4 a0 5) 60) <|
      rc_ck (rc_in (σ_4 a0 4) 60) <|
      rc_lt (rc_up σ_4 (rf a0 2) (σ_4 a0 4).toNatClampNeg (vp_nar .char (σ_4 (rf a0 0) (σ_4 a0 5).toNatClampNeg))) fun σ_7 =>
      rc_lt (rc_up σ_7 a0 6 (0 : Int32)) fun σ_8 =>
      rc_lt (rc_up σ_8 a0 5 ((σ_8 a0 5) + (1 : Int32))) fun σ_9 =>
      f_X6_readCommand_78 rf a0 w_4 (fun v2_16 σ_17 =>
        rc_lt (rc_up σ_17 a0 4 ((σ_17 a0 4) + (1 : Int32))) fun σ_18 =>
        some ((1 : Int32), σ_18)
      ) rc_fu (0 : Int32) σ_9
    else
      some ((0 : Int32), σ_2)
def f_X7_letPanelDrink (rf : rc_F) (a0 : Nat) (u1 : Int32) (σ : rc_S) : Option (Int32 × rc_S) :=
  rc_bd (f_X1_hasBarrel rf (rf a0 0) u1 σ) fun w_1 σ_1 =>
  if w_1 = 0 then
    rc_bd (f_X5_because rf (rf a0 1) (3 : Int32) (σ_1 (rf a0 0) 2) σ_1) fun w_20 σ_20 =>
    some (w_20, σ_20)
  else
    rc_lt (σ_1 (rf (rf a0 0) 3) 2) fun v2_2 =>
    if v2_2 = 0 then
      rc_bd (f_X5_because rf (rf a0 1) (11 : Int32) (0 : Int32) σ_1) fun w_18 σ_18 =>
      some (w_18, σ_18)
    else
      rc_ck (rc_in u1 8) <|
      if v2_2 ≤ (σ_1 (rf (rf (rf a0 0) 1) u1.toNatClampNeg) 1) then
        rc_bd (f_X1_noteOf rf (rf a0 0) (rf (rf (rf a0 0) 1) u1.toNatClampNeg) σ_1) fun w_4 σ_4 =>
        rc_lt (w_4 * v2_2) fun v4_5 =>
        rc_bd (f_X0_hailPart rf (rf (rf (rf a0 0) 1) u1.toNatClampNeg) σ_4) fun w_6 σ_6 =>
        rc_bd (f_X3_thoseWhoNotice rf (rf (rf a0 0) 3) w_6 σ_6) fun w_7 σ_7 =>
        if w_7 = 0 then
          rc_bd (f_X0_takeOut rf (rf (rf (rf a0 0) 1) u1.toNatClampNeg) v2_2 σ_7) fun w_8 σ_8 =>
          rc_lt (rc_up σ_8 (rf a0 0) 11 ((σ_8 (rf a0 0) 11) + v2_2)) fun σ_9 =>
          some (v4_5, σ_9)
        else
          rc_bd (f_X0_takeOut rf (rf (rf (rf a0 0) 1) u1.toNatClampNeg) v2_2 σ_7) fun w_10 σ_10 =>
          rc_lt (rc_up σ_10 (rf a0 0) 11 ((σ_10 (rf a0 0) 11) + v2_2)) fun σ_11 =>
          rc_lt (rc_up σ_11 (rf a0 0) 12 ((σ_11 (rf a0 0) 12) + (σ_11 (rf (rf (rf a0 0) 1) u1.toNatClampNeg) 1))) fun σ_12 =>
          rc_lt (rc_up σ_12 (rf a0 0) 13 ((σ_12 (rf a0 0) 13) + (1 : Int32))) fun σ_13 =>
          rc_bd (f_X0_makeEmpty rf (rf (rf (rf a0 0) 1) u1.toNatClampNeg) σ_13) fun _ σ_14 =>
          some ((0 : Int32), σ_14)
      else
        rc_bd (f_X5_because rf (rf a0 1) (6 : Int32) (σ_1 (rf (rf (rf a0 0) 1) u1.toNatClampNeg) 1) σ_1) fun w_16 σ_16 =>
        some (w_16, σ_16)
def f_X8_drink (rf : rc_F) (a0 : Nat) (u1 : Int32) (σ : rc_S) : Option (Nat × Int32 × rc_S) :=
  rc_bd (f_X2_setAside rf (rf a0 5) (rf a0 1) σ) fun _ σ_1 =>
  rc_bd (f_X7_letPanelDrink rf (rf a0 0) u1 σ_1) fun w_2 σ_2 =>
  rc_bx (f_X8_kept rf a0 w_2 σ_2) (0 : Int32) fun w_3 σ_3 =>
  some (0, w_3, σ_3)
def f_X8_note (rf : rc_F) (a0 : Nat) (u1 : Int32) (σ : rc_S) : Option (Nat × Int32 × rc_S) :=
  rc_bx (f_X8_filled rf a0 u1 σ) (0 : Int32) fun w_1 σ_1 =>
  rc_bd (f_X1_noteOf rf (rf a0 1) w_1 σ_1) fun w_2 σ_2 =>
  some (0, w_2, σ_2)
def f_X8_noteAgain (rf : rc_F) (a0 : Nat) (u1 : Int32) (σ : rc_S) : Option (Nat × Int32 × rc_S) :=
  rc_bx (f_X8_filled rf a0 u1 σ) (0 : Int32) fun w_1 σ_1 =>
  rc_bd (f_X0_ageIn rf w_1 (σ_1 (rf a0 1) 7) σ_1) fun w_2 σ_2 =>
  rc_bd (f_X0_noteYearByYear rf w_1 w_2 σ_2) fun w_3 σ_3 =>
  some (0, w_3, σ_3)
def f_X8_noteIn (rf : rc_F) (a0 : Nat) (u1 : Int32) (u2 : Int32) (σ : rc_S) : Option (Nat × Int32 × rc_S) :=
  rc_bx (f_X8_filled rf a0 u1 σ) (0 : Int32) fun w_1 σ_1 =>
  rc_bd (f_X8_isOutside rf u2 (0 : Int32) (20 : Int32) σ_1) fun w_2 σ_2 =>
  if w_2 = 0 then
    rc_bd (f_X0_ageIn rf w_1 (σ_2 (rf a0 1) 7) σ_2) fun w_3 σ_3 =>
    rc_bd (f_X0_noteAtAge rf w_1 (w_3 + u2) σ_3) fun w_4 σ_4 =>
    some (0, w_4, σ_4)
  else
    some (3, (0 : Int32), σ_2)
def f_X8_hidden_15 (rf : rc_F) (a0 : Nat) (r2 : Nat) (K : Int32 → rc_S → Option (Nat × Int32 × rc_S)) : Nat → Int32 → rc_S → Option (Nat × Int32 × rc_S)
  | 0, _, _ => none
  | n + 1, v3, σ =>
    if v3 ≤ 0 then
      K v3 σ
    else
      rc_bd (f_X0_hailPartWith rf r2 v3 σ) fun w_3 σ_3 =>
      rc_bd (f_X3_thoseWhoNotice rf (rf (rf a0 1) 3) w_3 σ_3) fun w_4 σ_4 =>
      if w_4 = 0 then
        some (0, v3, σ_4)
      else
        rc_lt (v3 + (-1)) fun v3_5 =>
        f_X8_hidden_15 rf a0 r2 K n v3_5 σ_4
def f_X8_hidden (rf : rc_F) (a0 : Nat) (u1 : Int32) (σ : rc_S) : Option (Nat × Int32 × rc_S) :=
  rc_bx (f_X8_unnoticed rf a0 u1 σ) (0 : Int32) fun w_1 σ_1 =>
  rc_bd (f_X1_mostHailFor rf (rf a0 1) w_1 σ_1) fun w_2 σ_2 =>
  f_X8_hidden_15 rf a0 w_1 (fun v3_8 σ_9 =>
    some (0, (0 : Int32), σ_9)
  ) rc_fu w_2 σ_2
def f_X8_hiddenAgain_18 (rf : rc_F) (a0 : Nat) (r2 : Nat) (v3 : Int32) (K : Int32 → rc_S → Option (Nat × Int32 × rc_S)) : Nat → Int32 → rc_S → Option (Nat × Int32 × rc_S)
  | 0, _, _ => none
  | n + 1, v4, σ =>
    if v3 ≤ v4 then
      K v4 σ
    else
      rc_bd (f_X0_hailPartWith rf r2 (v4 + (1 : Int32)) σ) fun w_3 σ_3 =>
      rc_bd (f_X3_doesBestNotice rf (rf (rf a0 1) 3) w_3 σ_3) fun w_4 σ_4 =>
      if w_4 = 0 then
        rc_lt (v4 + 1) fun v4_5 =>
        f_X8_hiddenAgain_18 rf a0 r2 v3 K n v4_5 σ_4
      else
        K v4 σ_4
def f_X8_hiddenAgain (rf : rc_F) (a0 : Nat) (u1 : Int32) (σ : rc_S) : Option (Nat × Int32 × rc_S) :=
  rc_bx (f_X8_unnoticed rf a0 u1 σ) (0 : Int32) fun w_1 σ_1 =>
  rc_bd (f_X1_mostHailFor rf (rf a0 1) w_1 σ_1) fun w_2 σ_2 =>
  f_X8_hiddenAgain_18 rf a0 w_1 w_2 (fun v4_8 σ_9 =>
    some (0, v4_8, σ_9)
  ) rc_fu (0 : Int32) σ_2
def f_X8_ranked_19 (rf : rc_F) (a0 : Nat) (v1 : Int32) (v2 : Int32) (K : Int32 → rc_S → Option (Nat × Int32 × rc_S)) : Nat → Int32 → rc_S → Option (Nat × Int32 × rc_S)
  | 0, _, _ => none
  | n + 1, v3, σ =>
    if (σ (rf a0 1) 2) ≤ v3 then
      K v3 σ
    else
      rc_bd (f_X1_placeOf rf (rf a0 1) v3 v1 σ) fun w_2 σ_2 =>
      if w_2 = v2 then
        some (0, v3, σ_2)
      else
        rc_lt (v3 + 1) fun v3_3 =>
        f_X8_ranked_19 rf a0 v1 v2 K n v3_3 σ_2
def f_X8_ranked (rf : rc_F) (a0 : Nat) (u1 : Int32) (u2 : Int32) (σ : rc_S) : Option (Nat × Int32 × rc_S) :=
  rc_bd (f_X8_isOutside rf u1 (0 : Int32) (3 : Int32) σ) fun w_1 σ_1 =>
  if w_1 = 0 then
    f_X8_ranked_19 rf a0 u1 u2 (fun v3_6 σ_7 =>
      some (4, (0 : Int32), σ_7)
    ) rc_fu (0 : Int32) σ_1
  else
    some (3, (0 : Int32), σ_1)
def f_X8_meanNote_6 (rf : rc_F) (a0 : Nat) (K : Int32 → Int32 → Int32 → rc_S → Option (Nat × UInt64 × rc_S)) : Nat → Int32 → Int32 → Int32 → rc_S → Option (Nat × UInt64 × rc_S)
  | 0, _, _, _, _ => none
  | n + 1, v1, v2, v3, σ =>
    if (σ (rf a0 1) 2) ≤ v3 then
      K v1 v2 v3 σ
    else
      rc_ck (rc_in v3 8) <|
      rc_bd (f_X1_noteOf rf (rf a0 1) (rf (rf (rf a0 1) 1) v3.toNatClampNeg) σ) fun w_2 σ_2 =>
      rc_lt (v1 + w_2) fun v1_3 =>
      rc_ck (rc_in v3 8) <|
      rc_bd (f_X0_isEmpty rf (rf (rf (rf a0 1) 1) v3.toNatClampNeg) σ_2) fun w_5 σ_5 =>
      if w_5 = 0 then
        rc_lt (v2 + (1 : Int32)) fun v2_6 =>
        rc_lt (v3 + 1) fun v3_7 =>
        f_X8_meanNote_6 rf a0 K n v1_3 v2_6 v3_7 σ_5
      else
        rc_lt (v2 + (0 : Int32)) fun v2_8 =>
        rc_lt (v3 + 1) fun v3_9 =>
        f_X8_meanNote_6 rf a0 K n v1_3 v2_8 v3_9 σ_5
def f_X8_meanNote (rf : rc_F) (a0 : Nat) (σ : rc_S) : Option (Nat × UInt64 × rc_S) :=
  f_X8_meanNote_6 rf a0 (fun v1_12 v2_13 v3_14 σ_15 =>
    if v2_13 = 0 then
      some (6, (0 : UInt64), σ_15)
    else
      rc_ck (decide ((FP.ddiv (FP.i2d v1_12) (FP.i2d v2_13)) &&& 0x7fffffffffffffff ≤ 0x7ff0000000000000)) <|
      some (0, FP.ddiv (FP.i2d v1_12) (FP.i2d v2_13), σ_15)
  ) rc_fu (0 : Int32) (0 : Int32) (0 : Int32) σ
def f_X0_pourIn (rf : rc_F) (a0 : Nat) (q1 : Nat) (u2 : Int32) (σ : rc_S) : Option (Unit × rc_S) :=
  rc_bd (f_X0_isEmpty rf a0 σ) fun w_1 σ_1 =>
  if w_1 = 0 then
    rc_bd (f_X0_takeOut rf q1 u2 σ_1) fun w_2 σ_2 =>
    rc_lt (rc_up σ_2 a0 2 ((σ_1 a0 2) + w_2)) fun σ_3 =>
    rc_lt (rc_up σ_3 a0 1 ((σ_3 a0 1) + u2)) fun σ_4 =>
    some ((), σ_4)
  else
    rc_bd (f_X0_copyVintage rf a0 q1 σ_1) fun _ σ_5 =>
    rc_bd (f_X0_takeOut rf q1 u2 σ_5) fun w_6 σ_6 =>
    rc_lt (rc_up σ_6 a0 2 ((σ_5 a0 2) + w_6)) fun σ_7 =>
    rc_lt (rc_up σ_7 a0 1 ((σ_7 a0 1) + u2)) fun σ_8 =>
    some ((), σ_8)
set_option maxHeartbeats 4000000 in
set_option maxRecDepth 100000 in
theorem k_X1_measureOf (l : Launch) {Y : rc_Y} {sh : Nat → Nat} {rf : rc_F} (hT : rc_T Y sh rf) (a0 : Nat) (u1 : Int32) (u2 : Int32) (h0 : sh a0 = 2) (sz : Nat) (σ σ' : rc_S) (r : Int32) (hm : f_X1_measureOf rf a0 u1 u2 σ = some (r, σ')) : Met l yX1_measureOf (Cond.code yX1_measureOf cX1_measureOf 4 (some .int) :: rc_big) ({ frames := 5, cells := 0, slots := 0, locals := 105 } : Room) (rc_P Y sh rf σ sz [.ref a0, .int u1, .int u2]) (va_Qi (fun (r' : Int32) (_ : Unit) => r' = r) (fun _ t => rc_W Y sh rf σ' t.heap) (rc_A sh sz)) 0 0 (rc_A sh sz) := by
  refine Met.ofW (cc := cX1_measureOf) (maxL := 4) (ret := (some .int)) (by decide +kernel) rfl ?_
  intro p e s m args below meth c s₁ B hml hv
  obtain ⟨rfl, hsz, hW, hK, hE⟩ := hv
  have hx := B.exec
  have hb := B.bytes
  have hr := B.returns
  have hts : ∀ w ∈ rc_big, w.before _ s = true := fun w h => atoms_spec (ws := Cond.code yX1_measureOf cX1_measureOf 4 (some .int) :: rc_big) B.pre w (List.mem_cons_of_mem _ h)
  have hown : s.vm.findClass RX1 = some m.cls := findClass_of_methodNamed B.named
  have hlocks := B.notSynchronized
  clear B
  subst hsz
  have hS : va_S (rc_A sh s.heap.size) s.heap s.heap [] := va_S.rf
  have hl := lv_entry ([.ref a0, .int u1, .int u2]) (n := 4) (Nat.le_of_ble_eq_true rfl)
  rw [lg_entry_eq]
  generalize (lg_sl ([.ref a0, .int u1, .int u2]) ++ List.replicate (4 - (lg_sl ([.ref a0, .int u1, .int u2])).length) Slot.unset).toArray = ls at hl ⊢
  have hl : lv_has ls 4 [(0, .ref a0), (1, .int u1), (2, .int u2)] := hl
  unfold f_X1_measureOf at hm
  refine lv_aload_n hx hb dX1_measureOf_0 rfl (lv_at hl 0 rfl) ?_
  refine rg_2_1 hx hb hts hown hK hW h0 tw_1_143 dX1_measureOf_1 ?_
  refine lv_iload_n hx hb dX1_measureOf_4 rfl (lv_at hl 1 rfl) ?_
  have hi_1 := (rc_ix hm).1
  replace hm := (rc_ix hm).2
  refine rc_aald hx hb hK hW (rc_t_2_1 hT h0) (by decide) rfl 4 rfl hi_1 dX1_measureOf_5 ?_
  refine lv_astore_n (lv' := [(3, .ref (rf (rf a0 1) u1.toNatClampNeg)), (0, .ref a0), (1, .int u1), (2, .int u2)]) hx hb dX1_measureOf_6 rfl hl (by decide) rfl (fun ls hl => ?_)
  refine lv_iload_n hx hb dX1_measureOf_7 rfl (lv_at hl 3 rfl) ?_
  by_cases c_2 : u2 = (0 : Int32)
  · replace hm := rc_t hm c_2
    refine lv_tableIn (off := 28) (tgt := 36) hx hb dX1_measureOf_8 (by rw [c_2]; decide) (by rw [c_2]; decide) (by rw [c_2]; decide) (by decide) ?_
    refine lv_aload_n hx hb dX1_measureOf_36 rfl (lv_at hl 0 rfl) ?_
    refine rg_1_1 hx hb hts hown hK hW (rc_t_25 hT (rc_t_2_1 hT h0) hi_1) tw_1_91 dX1_measureOf_37 ?_
    exact rc_eiret hx hb hr hlocks hW hS (Nat.le_of_ble_eq_true rfl) (Nat.le_of_ble_eq_true rfl) hm dX1_measureOf_40
  · replace hm := rc_f hm c_2
    by_cases c_3 : u2 = (1 : Int32)
    · replace hm := rc_t hm c_3
      refine lv_tableIn (off := 33) (tgt := 41) hx hb dX1_measureOf_8 (by rw [c_3]; decide) (by rw [c_3]; decide) (by rw [c_3]; decide) (by decide) ?_
      refine lv_aload_n hx hb dX1_measureOf_41 rfl (lv_at hl 1 rfl) ?_
      refine lv_aload_n hx hb dX1_measureOf_42 rfl (lv_at hl 0 rfl) ?_
      obtain ⟨w_4, σ_4, hc_4, hm0⟩ := rc_bd_inv hm
      clear hm
      refine rc_ci hS (va_runV (As := [.ref (rf (rf a0 1) u1.toNatClampNeg)]) (rest := []) ⟨hx, hb, hml, hown, hts⟩ (k_X1_noteOf l hT a0 (rf (rf a0 1) u1.toNatClampNeg) h0 (rc_t_25 hT (rc_t_2_1 hT h0) hi_1) s.heap.size _ _ _ hc_4) (cwV 1 hts (rc_gV tw_7_20 tw_3_18 tw_3_19 tw_1_3 tw_3_20) rfl rfl rfl (by decide +kernel) ⟨Nat.le_of_ble_eq_true rfl, Nat.le_of_ble_eq_true rfl⟩) (rc_preV hT hW hK hE hS h0 (by decide) rfl (q := (RX1, TX1, 14)) rfl [.ref (rf (rf a0 1) u1.toNatClampNeg)]) rfl rfl hl.1 rfl (lv_room (Nat.le_of_ble_eq_true rfl)) dX1_measureOf_43 ⟨Nat.le_of_ble_eq_true rfl, Nat.le_of_ble_eq_true rfl⟩) (fun H locs hW hS => ?_)
      have hm := hm0
      clear hm0 hc_4
      exact rc_eiret hx hb hr hlocks hW hS (Nat.le_of_ble_eq_true rfl) (Nat.le_of_ble_eq_true rfl) hm dX1_measureOf_46
    · replace hm := rc_f hm c_3
      by_cases c_5 : u2 = (2 : Int32)
      · replace hm := rc_t hm c_5
        refine lv_tableIn (off := 39) (tgt := 47) hx hb dX1_measureOf_8 (by rw [c_5]; decide) (by rw [c_5]; decide) (by rw [c_5]; decide) (by decide) ?_
        refine lv_aload_n hx hb dX1_measureOf_47 rfl (lv_at hl 0 rfl) ?_
        refine lv_aload_n hx hb dX1_measureOf_48 rfl (lv_at hl 1 rfl) ?_
        refine rg_2_7 hx hb hts hown hK hW h0 tw_1_159 dX1_measureOf_49 ?_
        obtain ⟨w_6, σ_6, hc_6, hm0⟩ := rc_bd_inv hm
        clear hm
        refine rc_ci hS (va_runV (As := [.int (σ a0 7)]) (rest := []) ⟨hx, hb, hml, hown, hts⟩ (k_X0_ageIn l hT (rf (rf a0 1) u1.toNatClampNeg) (σ a0 7) (rc_t_25 hT (rc_t_2_1 hT h0) hi_1) s.heap.size _ _ _ hc_6) (cwV 1 hts (rc_gV tw_3_21 tw_3_22 tw_3_23 tw_1_5 tw_3_24) rfl rfl rfl (by decide +kernel) ⟨Nat.le_of_ble_eq_true rfl, Nat.le_of_ble_eq_true rfl⟩) (rc_preV hT hW hK hE hS (rc_t_25 hT (rc_t_2_1 hT h0) hi_1) (by decide) rfl (q := (RX0, TX0, 6)) rfl [.int (σ a0 7)]) rfl rfl hl.1 rfl (lv_room (Nat.le_of_ble_eq_true rfl)) dX1_measureOf_52 ⟨Nat.le_of_ble_eq_true rfl, Nat.le_of_ble_eq_true rfl⟩) (fun H locs hW hS => ?_)
        have hm := hm0
        clear hm0 hc_6
        exact rc_eiret hx hb hr hlocks hW hS (Nat.le_of_ble_eq_true rfl) (Nat.le_of_ble_eq_true rfl) hm dX1_measureOf_55
      · replace hm := rc_f hm c_5
        refine rc_tblD (tgt := 56) hx hb dX1_measureOf_8 [0, 1, 2] (by decide +kernel) (by decide +kernel) (rc_nk c_2 (by decide) (rc_nk c_3 (by decide) (rc_nk c_5 (by decide) rc_nk0))) (by decide) ?_
        refine lv_aload_n hx hb dX1_measureOf_56 rfl (lv_at hl 0 rfl) ?_
        obtain ⟨w_7, σ_7, hc_7, hm0⟩ := rc_bd_inv hm
        clear hm
        refine rc_ci hS (va_runV (As := []) (rest := []) ⟨hx, hb, hml, hown, hts⟩ (k_X0_hailPart l hT (rf (rf a0 1) u1.toNatClampNeg) (rc_t_25 hT (rc_t_2_1 hT h0) hi_1) s.heap.size _ _ _ hc_7) (cwV 0 hts (rc_gV tw_7_21 tw_3_38 tw_3_39 tw_1_5 tw_3_40) rfl rfl rfl (by decide +kernel) ⟨Nat.le_of_ble_eq_true rfl, Nat.le_of_ble_eq_true rfl⟩) (rc_preV hT hW hK hE hS (rc_t_25 hT (rc_t_2_1 hT h0) hi_1) (by decide) rfl (q := (RX0, TX0, 6)) rfl []) rfl rfl hl.1 rfl (lv_room (Nat.le_of_ble_eq_true rfl)) dX1_measureOf_57 ⟨Nat.le_of_ble_eq_true rfl, Nat.le_of_ble_eq_true rfl⟩) (fun H locs hW hS => ?_)
        have hm := hm0
        clear hm0 hc_7
        exact rc_eiret hx hb hr hlocks hW hS (Nat.le_of_ble_eq_true rfl) (Nat.le_of_ble_eq_true rfl) hm dX1_measureOf_60
set_option maxHeartbeats 4000000 in
set_option maxRecDepth 100000 in
theorem k_X1_placeOf (l : Launch) {Y : rc_Y} {sh : Nat → Nat} {rf : rc_F} (hT : rc_T Y sh rf) (a0 : Nat) (u1 : Int32) (u2 : Int32) (h0 : sh a0 = 2) (sz : Nat) (σ σ' : rc_S) (r : Int32) (hm : f_X1_placeOf rf a0 u1 u2 σ = some (r, σ')) : Met l yX1_placeOf (Cond.code yX1_placeOf cX1_placeOf 7 (some .int) :: rc_big) ({ frames := 6, cells := 0, slots := 0, locals := 128 } : Room) (rc_P Y sh rf σ sz [.ref a0, .int u1, .int u2]) (va_Qi (fun (r' : Int32) (_ : Unit) => r' = r) (fun _ t => rc_W Y sh rf σ' t.heap) (rc_A sh sz)) 0 0 (rc_A sh sz) := by
  refine Met.ofW (cc := cX1_placeOf) (maxL := 7) (ret := (some .int)) (by decide +kernel) rfl ?_
  intro p e s m args below meth c s₁ B hml hv
  obtain ⟨rfl, hsz, hW, hK, hE⟩ := hv
  have hx := B.exec
  have hb := B.bytes
  have hr := B.returns
  have hts : ∀ w ∈ rc_big, w.before _ s = true := fun w h => atoms_spec (ws := Cond.code yX1_placeOf cX1_placeOf 7 (some .int) :: rc_big) B.pre w (List.mem_cons_of_mem _ h)
  have hown : s.vm.findClass RX1 = some m.cls := findClass_of_methodNamed B.named
  have hlocks := B.notSynchronized
  clear B
  subst hsz
  have hS : va_S (rc_A sh s.heap.size) s.heap s.heap [] := va_S.rf
  have hl := lv_entry ([.ref a0, .int u1, .int u2]) (n := 7) (Nat.le_of_ble_eq_true rfl)
  rw [lg_entry_eq]
  generalize (lg_sl ([.ref a0, .int u1, .int u2]) ++ List.replicate (7 - (lg_sl ([.ref a0, .int u1, .int u2])).length) Slot.unset).toArray = ls at hl ⊢
  have hl : lv_has ls 7 [(0, .ref a0), (1, .int u1), (2, .int u2)] := hl
  have lp_13 : ∀ (v1 : Int32) (v2 : Int32) (v3 : Int32) (K : Int32 → Int32 → rc_S → Option (Int32 × rc_S)) (hKK : ∀ (v4 v5 : Int32) (σ : rc_S) (H : Heap) (locs : List Loc) (ls : Array Slot), K v4 v5 σ = some (r, σ') → rc_W Y sh rf σ H → va_S (rc_A sh s.heap.size) s.heap H locs → lv_has ls 7 [(4, .int v4)] → W p l e (headSpec (Cond.code yX1_placeOf cX1_placeOf 7 (some .int) :: rc_big) ({ frames := 6, cells := 0, slots := 0, locals := 128 } : Room)).room s m (([.ref a0, .int u1, .int u2] : List Value).toArray) below meth c H locs (0 + 0) (0 + 0) (MQ below (va_Qi (fun (r' : Int32) (_ : Unit) => r' = r) (fun _ t => rc_W Y sh rf σ' t.heap) (rc_A sh s.heap.size)) ([.ref a0, .int u1, .int u2] : List Value).toArray s 0 0 (rc_A sh s.heap.size)) (F0 m 65 ls [])) (n : Nat) (v4 v5 : Int32) (σ : rc_S) (H : Heap) (locs : List Loc) (ls : Array Slot), f_X1_placeOf_13 rf a0 v1 v2 v3 K n v4 v5 σ = some (r, σ') → rc_W Y sh rf σ H → va_S (rc_A sh s.heap.size) s.heap H locs → lv_has ls 7 [(0, .ref a0), (1, .int v1), (2, .int v2), (3, .int v3), (4, .int v4), (5, .int v5)] → W p l e (headSpec (Cond.code yX1_placeOf cX1_placeOf 7 (some .int) :: rc_big) ({ frames := 6, cells := 0, slots := 0, locals := 128 } : Room)).room s m (([.ref a0, .int u1, .int u2] : List Value).toArray) below meth c H locs (0 + 0) (0 + 0) (MQ below (va_Qi (fun (r' : Int32) (_ : Unit) => r' = r) (fun _ t => rc_W Y sh rf σ' t.heap) (rc_A sh s.heap.size)) ([.ref a0, .int u1, .int u2] : List Value).toArray s 0 0 (rc_A sh s.heap.size)) (F0 m 13 ls []) := by
    intro v1 v2 v3 K hKK n
    induction n with
    | zero =>
      intro v4 v5 σ H locs ls hm
      rw [f_X1_placeOf_13] at hm
      cases hm
    | succ n ih =>
      intro v4 v5 σ H locs ls hm hW hS hl
      rw [f_X1_placeOf_13] at hm
      refine lv_iload hx hb dX1_placeOf_13 (lv_at hl 5 rfl) ?_
      refine lv_aload_n hx hb dX1_placeOf_15 rfl (lv_at hl 0 rfl) ?_
      refine rg_2_2 hx hb hts hown hK hW h0 tw_1_146 dX1_placeOf_16 ?_
      refine lv_icmp_ge (tgt := 65) hx hb dX1_placeOf_19 (by decide) (fun c_14 => ?_) (fun c_14 => ?_)
      · replace hm := rc_t hm c_14
        exact hKK v4 v5 σ _ _ _ hm hW hS (lv_sub hl [4] rfl)
      · replace hm := rc_f hm c_14
        refine lv_aload_n hx hb dX1_placeOf_22 rfl (lv_at hl 0 rfl) ?_
        refine lv_iload hx hb dX1_placeOf_23 (lv_at hl 5 rfl) ?_
        refine lv_iload_n hx hb dX1_placeOf_25 rfl (lv_at hl 2 rfl) ?_
        obtain ⟨w_2, σ_2, hc_2, hm0⟩ := rc_bd_inv hm
        clear hm
        refine rc_ci hS (va_runV (As := [.int v5, .int v2]) (rest := []) ⟨hx, hb, hml, hown, hts⟩ (k_X1_measureOf l hT a0 v5 v2 h0 H.size _ _ _ hc_2) (cwV 2 hts (rc_gV tw_7_16 tw_7_17 tw_7_18 tw_1_3 tw_7_19) rfl rfl rfl (by decide +kernel) ⟨Nat.le_of_ble_eq_true rfl, Nat.le_of_ble_eq_true rfl⟩) (rc_preV hT hW hK hE hS h0 (by decide) rfl (q := (RX1, TX1, 14)) rfl [.int v5, .int v2]) rfl rfl hl.1 rfl (lv_room (Nat.le_of_ble_eq_true rfl)) dX1_placeOf_26 ⟨Nat.le_of_ble_eq_true rfl, Nat.le_of_ble_eq_true rfl⟩) (fun H locs hW hS => ?_)
        have hm := hm0
        clear hm0 hc_2
        refine lv_istore (lv' := [(6, .int w_2), (0, .ref a0), (1, .int v1), (2, .int v2), (3, .int v3), (4, .int v4), (5, .int v5)]) hx hb dX1_placeOf_29 hl (by decide) rfl (fun ls hl => ?_)
        refine lv_iload hx hb dX1_placeOf_31 (lv_at hl 5 rfl) ?_
        refine lv_iload hx hb dX1_placeOf_33 (lv_at hl 0 rfl) ?_
        refine lv_iload_n hx hb dX1_placeOf_35 rfl (lv_at hl 4 rfl) ?_
        refine lv_icmp_gt (tgt := 51) hx hb dX1_placeOf_36 (by decide) (fun c_13 => ?_) (fun c_13 => ?_)
        · replace hm := rc_t hm c_13
          refine lv_iconst (v := 1) hx hb dX1_placeOf_51 (by decide) ?_
          refine lv_goto (tgt := 56) hx hb dX1_placeOf_52 (by decide) ?_
          refine lv_iadd hx hb dX1_placeOf_56 ?_
          refine lv_topi (fun v4_3 ev => ?_)
          replace hm := rc_lt_at hm ev
          clear ev
          refine lv_istore (lv' := [(4, .int v4_3), (6, .int w_2), (0, .ref a0), (1, .int v1), (2, .int v2), (3, .int v3), (5, .int v5)]) hx hb dX1_placeOf_57 hl (by decide) rfl (fun ls hl => ?_)
          obtain ⟨v5_4, ev⟩ : ∃ y : Int32, y = (v5 + 1) := ⟨_, rfl⟩
          replace hm := rc_lt_at hm ev
          refine lv_iinc (v := v5_4) (lv' := [(5, .int v5_4), (4, .int v4_3), (6, .int w_2), (0, .ref a0), (1, .int v1), (2, .int v2), (3, .int v3)]) hx hb dX1_placeOf_59 hl (k := 6) rfl (by rw [ev]; rfl) (by decide) rfl (fun ls hl => ?_)
          clear ev
          refine lv_goto (tgt := 13) hx hb dX1_placeOf_62 (by decide) ?_
          exact ih v4_3 v5_4 σ_2 _ _ _ hm hW hS (lv_sub hl [3, 4, 5, 6, 1, 0] rfl)
        · replace hm := rc_f hm c_13
          refine lv_iload hx hb dX1_placeOf_39 (lv_at hl 0 rfl) ?_
          refine lv_iload_n hx hb dX1_placeOf_41 rfl (lv_at hl 4 rfl) ?_
          refine lv_icmp_ne (tgt := 55) hx hb dX1_placeOf_42 (by decide) (fun c_12 => ?_) (fun c_12 => ?_)
          · replace hm := rc_f hm c_12
            refine lv_iconst (v := 0) hx hb dX1_placeOf_55 (by decide) ?_
            refine lv_iadd hx hb dX1_placeOf_56 ?_
            refine lv_topi (fun v4_5 ev => ?_)
            replace hm := rc_lt_at hm ev
            clear ev
            refine lv_istore (lv' := [(4, .int v4_5), (6, .int w_2), (0, .ref a0), (1, .int v1), (2, .int v2), (3, .int v3), (5, .int v5)]) hx hb dX1_placeOf_57 hl (by decide) rfl (fun ls hl => ?_)
            obtain ⟨v5_6, ev⟩ : ∃ y : Int32, y = (v5 + 1) := ⟨_, rfl⟩
            replace hm := rc_lt_at hm ev
            refine lv_iinc (v := v5_6) (lv' := [(5, .int v5_6), (4, .int v4_5), (6, .int w_2), (0, .ref a0), (1, .int v1), (2, .int v2), (3, .int v3)]) hx hb dX1_placeOf_59 hl (k := 6) rfl (by rw [ev]; rfl) (by decide) rfl (fun ls hl => ?_)
            clear ev
            refine lv_goto (tgt := 13) hx hb dX1_placeOf_62 (by decide) ?_
            exact ih v4_5 v5_6 σ_2 _ _ _ hm hW hS (lv_sub hl [3, 4, 5, 6, 1, 0] rfl)
          · replace hm := rc_t hm c_12
            refine lv_iload hx hb dX1_placeOf_45 (lv_at hl 6 rfl) ?_
            refine lv_iload_n hx hb dX1_placeOf_47 rfl (lv_at hl 2 rfl) ?_
            refine lv_icmp_ge (tgt := 55) hx hb dX1_placeOf_48 (by decide) (fun c_11 => ?_) (fun c_11 => ?_)
            · replace hm := rc_t hm c_11
              refine lv_iconst (v := 0) hx hb dX1_placeOf_55 (by decide) ?_
              refine lv_iadd hx hb dX1_placeOf_56 ?_
              refine lv_topi (fun v4_7 ev => ?_)
              replace hm := rc_lt_at hm ev
              clear ev
              refine lv_istore (lv' := [(4, .int v4_7), (6, .int w_2), (0, .ref a0), (1, .int v1), (2, .int v2), (3, .int v3), (5, .int v5)]) hx hb dX1_placeOf_57 hl (by decide) rfl (fun ls hl => ?_)
              obtain ⟨v5_8, ev⟩ : ∃ y : Int32, y = (v5 + 1) := ⟨_, rfl⟩
              replace hm := rc_lt_at hm ev
              refine lv_iinc (v := v5_8) (lv' := [(5, .int v5_8), (4, .int v4_7), (6, .int w_2), (0, .ref a0), (1, .int v1), (2, .int v2), (3, .int v3)]) hx hb dX1_placeOf_59 hl (k := 6) rfl (by rw [ev]; rfl) (by decide) rfl (fun ls hl => ?_)
              clear ev
              refine lv_goto (tgt := 13) hx hb dX1_placeOf_62 (by decide) ?_
              exact ih v4_7 v5_8 σ_2 _ _ _ hm hW hS (lv_sub hl [3, 4, 5, 6, 1, 0] rfl)
            · replace hm := rc_f hm c_11
              refine lv_iconst (v := 1) hx hb dX1_placeOf_51 (by decide) ?_
              refine lv_goto (tgt := 56) hx hb dX1_placeOf_52 (by decide) ?_
              refine lv_iadd hx hb dX1_placeOf_56 ?_
              refine lv_topi (fun v4_9 ev => ?_)
              replace hm := rc_lt_at hm ev
              clear ev
              refine lv_istore (lv' := [(4, .int v4_9), (6, .int w_2), (0, .ref a0), (1, .int v1), (2, .int v2), (3, .int v3), (5, .int v5)]) hx hb dX1_placeOf_57 hl (by decide) rfl (fun ls hl => ?_)
              obtain ⟨v5_10, ev⟩ : ∃ y : Int32, y = (v5 + 1) := ⟨_, rfl⟩
              replace hm := rc_lt_at hm ev
              refine lv_iinc (v := v5_10) (lv' := [(5, .int v5_10), (4, .int v4_9), (6, .int w_2), (0, .ref a0), (1, .int v1), (2, .int v2), (3, .int v3)]) hx hb dX1_placeOf_59 hl (k := 6) rfl (by rw [ev]; rfl) (by decide) rfl (fun ls hl => ?_)
              clear ev
              refine lv_goto (tgt := 13) hx hb dX1_placeOf_62 (by decide) ?_
              exact ih v4_9 v5_10 σ_2 _ _ _ hm hW hS (lv_sub hl [3, 4, 5, 6, 1, 0] rfl)
  unfold f_X1_placeOf at hm
  refine lv_aload_n hx hb dX1_placeOf_0 rfl (lv_at hl 0 rfl) ?_
  refine lv_iload_n hx hb dX1_placeOf_1 rfl (lv_at hl 1 rfl) ?_
  refine lv_iload_n hx hb dX1_placeOf_2 rfl (lv_at hl 2 rfl) ?_
  obtain ⟨w_1, σ_1, hc_1, hm0⟩ := rc_bd_inv hm
  clear hm
  refine rc_ci hS (va_runV (As := [.int u1, .int u2]) (rest := []) ⟨hx, hb, hml, hown, hts⟩ (k_X1_measureOf l hT a0 u1 u2 h0 s.heap.size _ _ _ hc_1) (cwV 2 hts (rc_gV tw_7_16 tw_7_17 tw_7_18 tw_1_3 tw_7_19) rfl rfl rfl (by decide +kernel) ⟨Nat.le_of_ble_eq_true rfl, Nat.le_of_ble_eq_true rfl⟩) (rc_preV hT hW hK hE hS h0 (by decide) rfl (q := (RX1, TX1, 14)) rfl [.int u1, .int u2]) rfl rfl hl.1 rfl (lv_room (Nat.le_of_ble_eq_true rfl)) dX1_placeOf_3 ⟨Nat.le_of_ble_eq_true rfl, Nat.le_of_ble_eq_true rfl⟩) (fun H locs hW hS => ?_)
  have hm := hm0
  clear hm0 hc_1
  refine lv_istore_n (lv' := [(3, .int w_1), (0, .ref a0), (1, .int u1), (2, .int u2)]) hx hb dX1_placeOf_6 rfl hl (by decide) rfl (fun ls hl => ?_)
  refine lv_iconst (v := 0) hx hb dX1_placeOf_7 (by decide) ?_
  refine lv_istore (lv' := [(4, .int (0 : Int32)), (3, .int w_1), (0, .ref a0), (1, .int u1), (2, .int u2)]) hx hb dX1_placeOf_8 hl (by decide) rfl (fun ls hl => ?_)
  refine lv_iconst (v := 0) hx hb dX1_placeOf_10 (by decide) ?_
  refine lv_istore (lv' := [(5, .int (0 : Int32)), (4, .int (0 : Int32)), (3, .int w_1), (0, .ref a0), (1, .int u1), (2, .int u2)]) hx hb dX1_placeOf_11 hl (by decide) rfl (fun ls hl => ?_)
  refine lp_13 u1 u2 w_1 _ (fun v4_15 v5_16 σ_17 H locs ls hm hW hS hl => ?_) rc_fu (0 : Int32) (0 : Int32) σ_1 _ _ _ hm hW hS (lv_sub hl [3, 4, 5, 2, 1, 0] rfl)
  refine lv_iload hx hb dX1_placeOf_65 (lv_at hl 0 rfl) ?_
  exact rc_eiret hx hb hr hlocks hW hS (Nat.le_of_ble_eq_true rfl) (Nat.le_of_ble_eq_true rfl) hm dX1_placeOf_67
set_option maxHeartbeats 4000000 in
set_option maxRecDepth 100000 in
theorem k_X6_readCommand (l : Launch) {Y : rc_Y} {sh : Nat → Nat} {rf : rc_F} (hT : rc_T Y sh rf) (a0 : Nat) (h0 : sh a0 = 7) (sz : Nat) (σ σ' : rc_S) (r : Int32) (hm : f_X6_readCommand rf a0 σ = some (r, σ')) : Met l yX6_readCommand (Cond.code yX6_readCommand cX6_readCommand 3 (some .boolean) :: rc_big) ({ frames := 4, cells := 0, slots := 0, locals := 91 } : Room) (rc_P Y sh rf σ sz [.ref a0]) (va_Qi (fun (r' : Int32) (_ : Unit) => r' = r) (fun _ t => rc_W Y sh rf σ' t.heap) (rc_A sh sz)) 0 0 (rc_A sh sz) := by
  refine Met.ofW (cc := cX6_readCommand) (maxL := 3) (ret := (some .boolean)) (by decide +kernel) rfl ?_
  intro p e s m args below meth c s₁ B hml hv
  obtain ⟨rfl, hsz, hW, hK, hE⟩ := hv
  have hx := B.exec
  have hb := B.bytes
  have hr := B.returns
  have hts : ∀ w ∈ rc_big, w.before _ s = true := fun w h => atoms_spec (ws := Cond.code yX6_readCommand cX6_readCommand 3 (some .boolean) :: rc_big) B.pre w (List.mem_cons_of_mem _ h)
  have hown : s.vm.findClass RX6 = some m.cls := findClass_of_methodNamed B.named
  have hlocks := B.notSynchronized
  clear B
  subst hsz
  have hS : va_S (rc_A sh s.heap.size) s.heap s.heap [] := va_S.rf
  have hl := lv_entry ([.ref a0]) (n := 3) (Nat.le_of_ble_eq_true rfl)
  rw [lg_entry_eq]
  generalize (lg_sl ([.ref a0]) ++ List.replicate (3 - (lg_sl ([.ref a0])).length) Slot.unset).toArray = ls at hl ⊢
  have hl : lv_has ls 3 [(0, .ref a0)] := hl
  have lp_78 : ∀ (r1 : Nat) (hr1 : r1 < 13) (K : Int32 → rc_S → Option (Int32 × rc_S)) (hKK : ∀ (v2 : Int32) (σ : rc_S) (H : Heap) (locs : List Loc) (ls : Array Slot), K v2 σ = some (r, σ') → rc_W Y sh rf σ H → va_S (rc_A sh s.heap.size) s.heap H locs → lv_has ls 3 [(0, .ref a0)] → W p l e (headSpec (Cond.code yX6_readCommand cX6_readCommand 3 (some .boolean) :: rc_big) ({ frames := 4, cells := 0, slots := 0, locals := 91 } : Room)).room s m (([.ref a0] : List Value).toArray) below meth c H locs (0 + 0 + 0) (0 + 0 + 0) (MQ below (va_Qi (fun (r' : Int32) (_ : Unit) => r' = r) (fun _ t => rc_W Y sh rf σ' t.heap) (rc_A sh s.heap.size)) ([.ref a0] : List Value).toArray s 0 0 (rc_A sh s.heap.size)) (F0 m 106 ls [])) (n : Nat) (v2 : Int32) (σ : rc_S) (H : Heap) (locs : List Loc) (ls : Array Slot), f_X6_readCommand_78 rf a0 r1 K n v2 σ = some (r, σ') → rc_W Y sh rf σ H → va_S (rc_A sh s.heap.size) s.heap H locs → lv_has ls 3 [(0, .ref a0), (1, .ref (Y.2.2.2 r1)), (2, .int v2)] → W p l e (headSpec (Cond.code yX6_readCommand cX6_readCommand 3 (some .boolean) :: rc_big) ({ frames := 4, cells := 0, slots := 0, locals := 91 } : Room)).room s m (([.ref a0] : List Value).toArray) below meth c H locs (0 + 0 + 0) (0 + 0 + 0) (MQ below (va_Qi (fun (r' : Int32) (_ : Unit) => r' = r) (fun _ t => rc_W Y sh rf σ' t.heap) (rc_A sh s.heap.size)) ([.ref a0] : List Value).toArray s 0 0 (rc_A sh s.heap.size)) (F0 m 78 ls []) := by
    intro r1 hr1 K hKK n
    induction n with
    | zero =>
      intro v2 σ H locs ls hm
      rw [f_X6_readCommand_78] at hm
      cases hm
    | succ n ih =>
      intro v2 σ H locs ls hm hW hS hl
      rw [f_X6_readCommand_78] at hm
      refine lv_iload_n hx hb dX6_readCommand_78 rfl (lv_at hl 2 rfl) ?_
      refine lv_aload_n hx hb dX6_readCommand_79 rfl (lv_at hl 1 rfl) ?_
      obtain ⟨w_10, σ_10, hc_10, hm0⟩ := rc_bd_inv hm
      clear hm
      refine rc_ci hS (va_runV (As := []) (rest := [.int v2]) ⟨hx, hb, hml, hown, hts⟩ (k_J0_length_8abf5 l hT r1 hr1 H.size _ _ _ hc_10) (cwV 0 hts (rc_gV tw_5_237 tw_4_212 tw_4_213 tw_1_12 tw_4_214) rfl rfl rfl (by decide +kernel) ⟨Nat.le_of_ble_eq_true rfl, Nat.le_of_ble_eq_true rfl⟩) (rc_preVs hT hW hK hE hS hr1 []) rfl rfl hl.1 rfl (lv_room (Nat.le_of_ble_eq_true rfl)) dX6_readCommand_80 ⟨Nat.le_of_ble_eq_true rfl, Nat.le_of_ble_eq_true rfl⟩) (fun H locs hW hS => ?_)
      have hm := hm0
      clear hm0 hc_10
      refine lv_icmp_ge (tgt := 106) hx hb dX6_readCommand_83 (by decide) (fun c_15 => ?_) (fun c_15 => ?_)
      · replace hm := rc_t hm c_15
        exact hKK v2 σ_10 _ _ _ hm hW hS (lv_sub hl [0] rfl)
      · replace hm := rc_f hm c_15
        refine lv_aload_n hx hb dX6_readCommand_86 rfl (lv_at hl 0 rfl) ?_
        refine lv_aload_n hx hb dX6_readCommand_87 rfl (lv_at hl 1 rfl) ?_
        refine lv_iload_n hx hb dX6_readCommand_88 rfl (lv_at hl 2 rfl) ?_
        obtain ⟨w_11, σ_11, hc_11, hm0⟩ := rc_bd_inv hm
        clear hm
        refine rc_ci hS (va_runV (As := [.int v2]) (rest := [.ref a0]) ⟨hx, hb, hml, hown, hts⟩ (k_J0_charAt_5068e l hT r1 v2 hr1 H.size _ _ _ hc_11) (cwV 1 hts (rc_gV tw_5_238 tw_5_117 tw_5_118 tw_1_12 tw_5_119) rfl rfl rfl (by decide +kernel) ⟨Nat.le_of_ble_eq_true rfl, Nat.le_of_ble_eq_true rfl⟩) (rc_preVs hT hW hK hE hS hr1 [.int v2]) rfl rfl hl.1 rfl (lv_room (Nat.le_of_ble_eq_true rfl)) dX6_readCommand_89 ⟨Nat.le_of_ble_eq_true rfl, Nat.le_of_ble_eq_true rfl⟩) (fun H locs hW hS => ?_)
        have hm := hm0
        clear hm0 hc_11
        obtain ⟨w_12, σ_12, hc_12, hm0⟩ := rc_bd_inv hm
        clear hm
        refine rc_ci hS (va_runV (As := [.int w_11]) (rest := []) ⟨hx, hb, hml, hown, hts⟩ (k_X6_readPart l hT a0 w_11 h0 H.size _ _ _ hc_12) (cwV 1 hts (rc_gV tw_5_239 tw_6_1 tw_p_11 tw_1_9 tw_6_2) rfl rfl rfl (by decide +kernel) ⟨Nat.le_of_ble_eq_true rfl, Nat.le_of_ble_eq_true rfl⟩) (rc_preV hT hW hK hE hS h0 (by decide) rfl (q := (RX6, TX6, 7)) rfl [.int w_11]) rfl rfl hl.1 rfl (lv_room (Nat.le_of_ble_eq_true rfl)) dX6_readCommand_92 ⟨Nat.le_of_ble_eq_true rfl, Nat.le_of_ble_eq_true rfl⟩) (fun H locs hW hS => ?_)
        have hm := hm0
        clear hm0 hc_12
        refine lv_if_ne (tgt := 100) hx hb dX6_readCommand_95 (by decide) (fun c_14 => ?_) (fun c_14 => ?_)
        · replace hm := rc_f hm c_14
          obtain ⟨v2_13, ev⟩ : ∃ y : Int32, y = (v2 + 1) := ⟨_, rfl⟩
          replace hm := rc_lt_at hm ev
          refine lv_iinc (v := v2_13) (lv' := [(2, .int v2_13), (0, .ref a0), (1, .ref (Y.2.2.2 r1))]) hx hb dX6_readCommand_100 hl (k := 2) rfl (by rw [ev]; rfl) (by decide) rfl (fun ls hl => ?_)
          clear ev
          refine lv_goto (tgt := 78) hx hb dX6_readCommand_103 (by decide) ?_
          exact ih v2_13 σ_12 _ _ _ hm hW hS (lv_sub hl [1, 2, 0] rfl)
        · replace hm := rc_t hm c_14
          refine lv_iconst (v := 0) hx hb dX6_readCommand_98 (by decide) ?_
          exact rc_ezret hx hb hr hlocks hW hS (Nat.le_of_ble_eq_true rfl) (Nat.le_of_ble_eq_true rfl) rfl hm dX6_readCommand_99
  unfold f_X6_readCommand at hm
  refine lv_aload_n hx hb dX6_readCommand_0 rfl (lv_at hl 0 rfl) ?_
  refine rg_7_5 hx hb hts hown hK hW h0 tw_2_31 dX6_readCommand_1 ?_
  refine lv_aload_n hx hb dX6_readCommand_4 rfl (lv_at hl 0 rfl) ?_
  refine rg_7_1 hx hb hts hown hK hW h0 tw_2_24 dX6_readCommand_5 ?_
  refine lv_icmp_ge (tgt := 28) hx hb dX6_readCommand_8 (by decide) (fun c_20 => ?_) (fun c_20 => ?_)
  · replace hm := rc_t hm c_20
    refine lv_iconst (v := 0) hx hb dX6_readCommand_28 (by decide) ?_
    exact rc_ezret hx hb hr hlocks hW hS (Nat.le_of_ble_eq_true rfl) (Nat.le_of_ble_eq_true rfl) rfl hm dX6_readCommand_29
  · replace hm := rc_f hm c_20
    refine va_ldcS hx hb hown (rc_E_R hE 5 (by decide)) dX6_readCommand_11 ?_
    refine lv_aload_n hx hb dX6_readCommand_13 rfl (lv_at hl 0 rfl) ?_
    refine rg_7_0 hx hb hts hown hK hW h0 tw_2_23 dX6_readCommand_14 ?_
    refine lv_aload_n hx hb dX6_readCommand_17 rfl (lv_at hl 0 rfl) ?_
    refine rg_7_5 hx hb hts hown hK hW h0 tw_2_31 dX6_readCommand_18 ?_
    have hi_1 := (rc_ix hm).1
    replace hm := (rc_ix hm).2
    refine rc_caldj (j := (σ a0 5).toNatClampNeg) hx hb hK hW (rc_t_7_0 hT h0) (by decide) rfl hi_1 rfl dX6_readCommand_21 ?_
    obtain ⟨w_2, σ_2, hc_2, hm0⟩ := rc_bd_inv hm
    clear hm
    refine rc_ci hS (va_runV (As := [.int (σ (rf a0 0) (σ a0 5).toNatClampNeg)]) (rest := []) ⟨hx, hb, hml, hown, hts⟩ (k_J0_indexOf_0f7a4 l hT 5 (σ (rf a0 0) (σ a0 5).toNatClampNeg) (by decide) s.heap.size _ _ _ hc_2) (cwV 1 hts (rc_gV tw_5_183 tw_5_184 tw_5_185 tw_1_12 tw_5_186) rfl rfl rfl (by decide +kernel) ⟨Nat.le_of_ble_eq_true rfl, Nat.le_of_ble_eq_true rfl⟩) (rc_preVs hT hW hK hE hS (by decide) [.int (σ (rf a0 0) (σ a0 5).toNatClampNeg)]) rfl rfl hl.1 rfl (lv_room (Nat.le_of_ble_eq_true rfl)) dX6_readCommand_22 ⟨Nat.le_of_ble_eq_true rfl, Nat.le_of_ble_eq_true rfl⟩) (fun H locs hW hS => ?_)
    have hm := hm0
    clear hm0 hc_2
    refine lv_if_ge (tgt := 30) hx hb dX6_readCommand_25 (by decide) (fun c_19 => ?_) (fun c_19 => ?_)
    · replace hm := rc_t hm c_19
      refine lv_aload_n hx hb dX6_readCommand_30 rfl (lv_at hl 0 rfl) ?_
      refine rg_7_0 hx hb hts hown hK hW h0 tw_2_23 dX6_readCommand_31 ?_
      refine lv_aload_n hx hb dX6_readCommand_34 rfl (lv_at hl 0 rfl) ?_
      refine rg_7_5 hx hb hts hown hK hW h0 tw_2_31 dX6_readCommand_35 ?_
      have hi_3 := (rc_ix hm).1
      replace hm := (rc_ix hm).2
      refine rc_caldj (j := (σ_2 a0 5).toNatClampNeg) hx hb hK hW (rc_t_7_0 hT h0) (by decide) rfl hi_3 rfl dX6_readCommand_38 ?_
      obtain ⟨w_4, σ_4, hc_4, hm0⟩ := rc_bd_inv hm
      clear hm
      refine rc_cq hS (va_runS (As := [.int (σ_2 (rf a0 0) (σ_2 a0 5).toNatClampNeg)]) (rest := []) ⟨hx, hb, hml, hown, hts⟩ (k_X6_formOf l hT (σ_2 (rf a0 0) (σ_2 a0 5).toNatClampNeg)  H.size _ _ _ hc_4) (va_cwS 1 hts (rc_gS tw_5_229 tw_5_230 tw_1_9 tw_5_231) rfl rfl rfl (by decide +kernel) ⟨Nat.le_of_ble_eq_true rfl, Nat.le_of_ble_eq_true rfl⟩) (rc_preS hT hW hK hE hS [.int (σ_2 (rf a0 0) (σ_2 a0 5).toNatClampNeg)]) rfl rfl hl.1 rfl (lv_room (Nat.le_of_ble_eq_true rfl)) dX6_readCommand_39 ⟨Nat.le_of_ble_eq_true rfl, Nat.le_of_ble_eq_true rfl⟩) (fun H locs hW hS => ?_)
      have hm := hm0
      clear hm0 hc_4
      have hs_4 := (rc_dc hm).1
      replace hm := (rc_dc hm).2
      rw [rc_svr hs_4]
      refine lv_astore_n (lv' := [(1, .ref (Y.2.2.2 w_4)), (0, .ref a0)]) hx hb dX6_readCommand_42 rfl hl (by decide) rfl (fun ls hl => ?_)
      refine lv_aload_n hx hb dX6_readCommand_43 rfl (lv_at hl 1 rfl) ?_
      refine rg_7_2 hx hb hts hown hK hW h0 tw_2_26 dX6_readCommand_44 ?_
      refine lv_aload_n hx hb dX6_readCommand_47 rfl (lv_at hl 1 rfl) ?_
      refine rg_7_4 hx hb hts hown hK hW h0 tw_2_29 dX6_readCommand_48 ?_
      refine lv_aload_n hx hb dX6_readCommand_51 rfl (lv_at hl 1 rfl) ?_
      refine rg_7_0 hx hb hts hown hK hW h0 tw_2_23 dX6_readCommand_52 ?_
      refine lv_aload_n hx hb dX6_readCommand_55 rfl (lv_at hl 1 rfl) ?_
      refine rg_7_5 hx hb hts hown hK hW h0 tw_2_31 dX6_readCommand_56 ?_
      have hi_5 := (rc_ix hm).1
      replace hm := (rc_ix hm).2
      refine rc_caldj (j := (σ_4 a0 5).toNatClampNeg) hx hb hK hW (rc_t_7_0 hT h0) (by decide) rfl hi_5 rfl dX6_readCommand_59 ?_
      have hi_6 := (rc_ix hm).1
      replace hm := (rc_ix hm).2
      refine rc_castj (j := (σ_4 a0 4).toNatClampNeg) hx hb hK hW hS (rc_t_7_2 hT h0) (by decide) (fun _ => rfl) hi_6 rfl dX6_readCommand_60 (fun σ_7 H locs eσ hW hS => ?_)
      replace hm := rc_lt_at hm eσ
      clear eσ
      refine lv_aload_n hx hb dX6_readCommand_61 rfl (lv_at hl 1 rfl) ?_
      refine lv_iconst (v := 0) hx hb dX6_readCommand_62 (by decide) ?_
      refine rp_7_6 hx hb hts hown hK hW hS h0 tw_2_32 dX6_readCommand_63 (fun σ_8 H locs eσ hW hS => ?_)
      replace hm := rc_lt_at hm eσ
      clear eσ
      refine lv_aload_n hx hb dX6_readCommand_66 rfl (lv_at hl 1 rfl) ?_
      refine lv_dup hx hb dX6_readCommand_67 rfl ?_
      refine rg_7_5 hx hb hts hown hK hW h0 tw_2_31 dX6_readCommand_68 ?_
      refine lv_iconst (v := 1) hx hb dX6_readCommand_71 (by decide) ?_
      refine lv_iadd hx hb dX6_readCommand_72 ?_
      refine rp_7_5 hx hb hts hown hK hW hS h0 tw_2_31 dX6_readCommand_73 (fun σ_9 H locs eσ hW hS => ?_)
      replace hm := rc_lt_at hm eσ
      clear eσ
      refine lv_iconst (v := 0) hx hb dX6_readCommand_76 (by decide) ?_
      refine lv_istore_n (lv' := [(2, .int (0 : Int32)), (1, .ref (Y.2.2.2 w_4)), (0, .ref a0)]) hx hb dX6_readCommand_77 rfl hl (by decide) rfl (fun ls hl => ?_)
      refine lp_78 w_4 hs_4 _ (fun v2_16 σ_17 H locs ls hm hW hS hl => ?_) rc_fu (0 : Int32) σ_9 _ _ _ hm hW hS (lv_sub hl [2, 1, 0] rfl)
      refine lv_aload_n hx hb dX6_readCommand_106 rfl (lv_at hl 0 rfl) ?_
      refine lv_dup hx hb dX6_readCommand_107 rfl ?_
      refine rg_7_4 hx hb hts hown hK hW h0 tw_2_29 dX6_readCommand_108 ?_
      refine lv_iconst (v := 1) hx hb dX6_readCommand_111 (by decide) ?_
      refine lv_iadd hx hb dX6_readCommand_112 ?_
      refine rp_7_4 hx hb hts hown hK hW hS h0 tw_2_29 dX6_readCommand_113 (fun σ_18 H locs eσ hW hS => ?_)
      replace hm := rc_lt_at hm eσ
      clear eσ
      refine lv_iconst (v := 1) hx hb dX6_readCommand_116 (by decide) ?_
      exact rc_ezret hx hb hr hlocks hW hS (Nat.le_of_ble_eq_true rfl) (Nat.le_of_ble_eq_true rfl) rfl hm dX6_readCommand_117
    · replace hm := rc_f hm c_19
      refine lv_iconst (v := 0) hx hb dX6_readCommand_28 (by decide) ?_
      exact rc_ezret hx hb hr hlocks hW hS (Nat.le_of_ble_eq_true rfl) (Nat.le_of_ble_eq_true rfl) rfl hm dX6_readCommand_29
set_option maxHeartbeats 4000000 in
set_option maxRecDepth 100000 in
theorem k_X7_letPanelDrink (l : Launch) {Y : rc_Y} {sh : Nat → Nat} {rf : rc_F} (hT : rc_T Y sh rf) (a0 : Nat) (u1 : Int32) (h0 : sh a0 = 8) (sz : Nat) (σ σ' : rc_S) (r : Int32) (hm : f_X7_letPanelDrink rf a0 u1 σ = some (r, σ')) : Met l yX7_letPanelDrink (Cond.code yX7_letPanelDrink cX7_letPanelDrink 6 (some .int) :: rc_big) ({ frames := 5, cells := 0, slots := 0, locals := 105 } : Room) (rc_P Y sh rf σ sz [.ref a0, .int u1]) (va_Qi (fun (r' : Int32) (_ : Unit) => r' = r) (fun _ t => rc_W Y sh rf σ' t.heap) (rc_A sh sz)) 0 0 (rc_A sh sz) := by
  refine Met.ofW (cc := cX7_letPanelDrink) (maxL := 6) (ret := (some .int)) (by decide +kernel) rfl ?_
  intro p e s m args below meth c s₁ B hml hv
  obtain ⟨rfl, hsz, hW, hK, hE⟩ := hv
  have hx := B.exec
  have hb := B.bytes
  have hr := B.returns
  have hts : ∀ w ∈ rc_big, w.before _ s = true := fun w h => atoms_spec (ws := Cond.code yX7_letPanelDrink cX7_letPanelDrink 6 (some .int) :: rc_big) B.pre w (List.mem_cons_of_mem _ h)
  have hown : s.vm.findClass RX7 = some m.cls := findClass_of_methodNamed B.named
  have hlocks := B.notSynchronized
  clear B
  subst hsz
  have hS : va_S (rc_A sh s.heap.size) s.heap s.heap [] := va_S.rf
  have hl := lv_entry ([.ref a0, .int u1]) (n := 6) (Nat.le_of_ble_eq_true rfl)
  rw [lg_entry_eq]
  generalize (lg_sl ([.ref a0, .int u1]) ++ List.replicate (6 - (lg_sl ([.ref a0, .int u1])).length) Slot.unset).toArray = ls at hl ⊢
  have hl : lv_has ls 6 [(0, .ref a0), (1, .int u1)] := hl
  unfold f_X7_letPanelDrink at hm
  refine lv_aload_n hx hb dX7_letPanelDrink_0 rfl (lv_at hl 0 rfl) ?_
  refine rg_8_0 hx hb hts hown hK hW h0 tw_1_226 dX7_letPanelDrink_1 ?_
  refine lv_iload_n hx hb dX7_letPanelDrink_4 rfl (lv_at hl 1 rfl) ?_
  obtain ⟨w_1, σ_1, hc_1, hm0⟩ := rc_bd_inv hm
  clear hm
  refine rc_ci hS (va_runV (As := [.int u1]) (rest := []) ⟨hx, hb, hml, hown, hts⟩ (k_X1_hasBarrel l hT (rf a0 0) u1 (rc_t_8_0 hT h0) s.heap.size _ _ _ hc_1) (cwV 1 hts (rc_gV tw_4_70 tw_2_214 tw_2_215 tw_1_3 tw_2_216) rfl rfl rfl (by decide +kernel) ⟨Nat.le_of_ble_eq_true rfl, Nat.le_of_ble_eq_true rfl⟩) (rc_preV hT hW hK hE hS (rc_t_8_0 hT h0) (by decide) rfl (q := (RX1, TX1, 14)) rfl [.int u1]) rfl rfl hl.1 rfl (lv_room (Nat.le_of_ble_eq_true rfl)) dX7_letPanelDrink_5 ⟨Nat.le_of_ble_eq_true rfl, Nat.le_of_ble_eq_true rfl⟩) (fun H locs hW hS => ?_)
  have hm := hm0
  clear hm0 hc_1
  refine lv_if_ne (tgt := 27) hx hb dX7_letPanelDrink_8 (by decide) (fun c_21 => ?_) (fun c_21 => ?_)
  · replace hm := rc_f hm c_21
    refine lv_aload_n hx hb dX7_letPanelDrink_27 rfl (lv_at hl 0 rfl) ?_
    refine rg_8_0 hx hb hts hown hK hW h0 tw_1_226 dX7_letPanelDrink_28 ?_
    refine rg_2_3 hx hb hts hown hK hW (rc_t_8_0 hT h0) tw_1_150 dX7_letPanelDrink_31 ?_
    refine rg_4_2 hx hb hts hown hK hW (rc_t_2_3 hT (rc_t_8_0 hT h0)) tw_1_67 dX7_letPanelDrink_34 ?_
    refine lv_topi (fun v2_2 ev => ?_)
    replace hm := rc_lt_at hm ev
    clear ev
    refine lv_istore_n (lv' := [(2, .int v2_2), (0, .ref a0), (1, .int u1)]) hx hb dX7_letPanelDrink_37 rfl hl (by decide) rfl (fun ls hl => ?_)
    refine lv_iload_n hx hb dX7_letPanelDrink_38 rfl (lv_at hl 0 rfl) ?_
    refine lv_if_ne (tgt := 53) hx hb dX7_letPanelDrink_39 (by decide) (fun c_19 => ?_) (fun c_19 => ?_)
    · replace hm := rc_f hm c_19
      refine lv_aload_n hx hb dX7_letPanelDrink_53 rfl (lv_at hl 1 rfl) ?_
      refine rg_8_0 hx hb hts hown hK hW h0 tw_1_226 dX7_letPanelDrink_54 ?_
      refine rg_2_1 hx hb hts hown hK hW (rc_t_8_0 hT h0) tw_1_144 dX7_letPanelDrink_57 ?_
      refine lv_iload_n hx hb dX7_letPanelDrink_60 rfl (lv_at hl 2 rfl) ?_
      have hi_3 := (rc_ix hm).1
      replace hm := (rc_ix hm).2
      refine rc_aald hx hb hK hW (rc_t_2_1 hT (rc_t_8_0 hT h0)) (by decide) rfl 4 rfl hi_3 dX7_letPanelDrink_61 ?_
      refine lv_astore_n (lv' := [(3, .ref (rf (rf (rf a0 0) 1) u1.toNatClampNeg)), (2, .int v2_2), (0, .ref a0), (1, .int u1)]) hx hb dX7_letPanelDrink_62 rfl hl (by decide) rfl (fun ls hl => ?_)
      refine lv_aload_n hx hb dX7_letPanelDrink_63 rfl (lv_at hl 0 rfl) ?_
      refine rg_1_1 hx hb hts hown hK hW (rc_t_25 hT (rc_t_2_1 hT (rc_t_8_0 hT h0)) hi_3) tw_1_90 dX7_letPanelDrink_64 ?_
      refine lv_iload_n hx hb dX7_letPanelDrink_67 rfl (lv_at hl 1 rfl) ?_
      refine lv_icmp_ge (tgt := 85) hx hb dX7_letPanelDrink_68 (by decide) (fun c_17 => ?_) (fun c_17 => ?_)
      · replace hm := rc_t hm c_17
        refine lv_aload_n hx hb dX7_letPanelDrink_85 rfl (lv_at hl 2 rfl) ?_
        refine rg_8_0 hx hb hts hown hK hW h0 tw_1_226 dX7_letPanelDrink_86 ?_
        refine lv_aload_n hx hb dX7_letPanelDrink_89 rfl (lv_at hl 0 rfl) ?_
        obtain ⟨w_4, σ_4, hc_4, hm0⟩ := rc_bd_inv hm
        clear hm
        refine rc_ci hS (va_runV (As := [.ref (rf (rf (rf a0 0) 1) u1.toNatClampNeg)]) (rest := []) ⟨hx, hb, hml, hown, hts⟩ (k_X1_noteOf l hT (rf a0 0) (rf (rf (rf a0 0) 1) u1.toNatClampNeg) (rc_t_8_0 hT h0) (rc_t_25 hT (rc_t_2_1 hT (rc_t_8_0 hT h0)) hi_3) H.size _ _ _ hc_4) (cwV 1 hts (rc_gV tw_4_102 tw_3_18 tw_3_19 tw_1_3 tw_3_20) rfl rfl rfl (by decide +kernel) ⟨Nat.le_of_ble_eq_true rfl, Nat.le_of_ble_eq_true rfl⟩) (rc_preV hT hW hK hE hS (rc_t_8_0 hT h0) (by decide) rfl (q := (RX1, TX1, 14)) rfl [.ref (rf (rf (rf a0 0) 1) u1.toNatClampNeg)]) rfl rfl hl.1 rfl (lv_room (Nat.le_of_ble_eq_true rfl)) dX7_letPanelDrink_90 ⟨Nat.le_of_ble_eq_true rfl, Nat.le_of_ble_eq_true rfl⟩) (fun H locs hW hS => ?_)
        have hm := hm0
        clear hm0 hc_4
        refine lv_iload_n hx hb dX7_letPanelDrink_93 rfl (lv_at hl 1 rfl) ?_
        refine lv_imul hx hb dX7_letPanelDrink_94 ?_
        refine lv_topi (fun v4_5 ev => ?_)
        replace hm := rc_lt_at hm ev
        clear ev
        refine lv_istore (lv' := [(4, .int v4_5), (3, .ref (rf (rf (rf a0 0) 1) u1.toNatClampNeg)), (2, .int v2_2), (0, .ref a0), (1, .int u1)]) hx hb dX7_letPanelDrink_95 hl (by decide) rfl (fun ls hl => ?_)
        refine lv_aload_n hx hb dX7_letPanelDrink_97 rfl (lv_at hl 3 rfl) ?_
        refine rg_8_0 hx hb hts hown hK hW h0 tw_1_226 dX7_letPanelDrink_98 ?_
        refine rg_2_3 hx hb hts hown hK hW (rc_t_8_0 hT h0) tw_1_150 dX7_letPanelDrink_101 ?_
        refine lv_aload_n hx hb dX7_letPanelDrink_104 rfl (lv_at hl 1 rfl) ?_
        obtain ⟨w_6, σ_6, hc_6, hm0⟩ := rc_bd_inv hm
        clear hm
        refine rc_ci hS (va_runV (As := []) (rest := [.ref (rf (rf a0 0) 3)]) ⟨hx, hb, hml, hown, hts⟩ (k_X0_hailPart l hT (rf (rf (rf a0 0) 1) u1.toNatClampNeg) (rc_t_25 hT (rc_t_2_1 hT (rc_t_8_0 hT h0)) hi_3) H.size _ _ _ hc_6) (cwV 0 hts (rc_gV tw_4_90 tw_3_38 tw_3_39 tw_1_5 tw_3_40) rfl rfl rfl (by decide +kernel) ⟨Nat.le_of_ble_eq_true rfl, Nat.le_of_ble_eq_true rfl⟩) (rc_preV hT hW hK hE hS (rc_t_25 hT (rc_t_2_1 hT (rc_t_8_0 hT h0)) hi_3) (by decide) rfl (q := (RX0, TX0, 6)) rfl []) rfl rfl hl.1 rfl (lv_room (Nat.le_of_ble_eq_true rfl)) dX7_letPanelDrink_105 ⟨Nat.le_of_ble_eq_true rfl, Nat.le_of_ble_eq_true rfl⟩) (fun H locs hW hS => ?_)
        have hm := hm0
        clear hm0 hc_6
        obtain ⟨w_7, σ_7, hc_7, hm0⟩ := rc_bd_inv hm
        clear hm
        refine rc_ci hS (va_runV (As := [.int w_6]) (rest := []) ⟨hx, hb, hml, hown, hts⟩ (k_X3_thoseWhoNotice l hT (rf (rf a0 0) 3) w_6 (rc_t_2_3 hT (rc_t_8_0 hT h0)) H.size _ _ _ hc_7) (cwV 1 hts (rc_gV tw_4_103 tw_3_54 tw_3_55 tw_1_4 tw_3_56) rfl rfl rfl (by decide +kernel) ⟨Nat.le_of_ble_eq_true rfl, Nat.le_of_ble_eq_true rfl⟩) (rc_preV hT hW hK hE hS (rc_t_2_3 hT (rc_t_8_0 hT h0)) (by decide) rfl (q := (RX3, TX3, 3)) rfl [.int w_6]) rfl rfl hl.1 rfl (lv_room (Nat.le_of_ble_eq_true rfl)) dX7_letPanelDrink_108 ⟨Nat.le_of_ble_eq_true rfl, Nat.le_of_ble_eq_true rfl⟩) (fun H locs hW hS => ?_)
        have hm := hm0
        clear hm0 hc_7
        refine lv_if_eq (tgt := 118) hx hb dX7_letPanelDrink_111 (by decide) (fun c_15 => ?_) (fun c_15 => ?_)
        · replace hm := rc_t hm c_15
          refine lv_iconst (v := 0) hx hb dX7_letPanelDrink_118 (by decide) ?_
          refine lv_istore (lv' := [(5, .int (0 : Int32)), (4, .int v4_5), (3, .ref (rf (rf (rf a0 0) 1) u1.toNatClampNeg)), (2, .int v2_2), (0, .ref a0), (1, .int u1)]) hx hb dX7_letPanelDrink_119 hl (by decide) rfl (fun ls hl => ?_)
          refine lv_aload_n hx hb dX7_letPanelDrink_121 rfl (lv_at hl 2 rfl) ?_
          refine lv_iload_n hx hb dX7_letPanelDrink_122 rfl (lv_at hl 3 rfl) ?_
          obtain ⟨w_8, σ_8, hc_8, hm0⟩ := rc_bd_inv hm
          clear hm
          refine rc_ci hS (va_runV (As := [.int v2_2]) (rest := []) ⟨hx, hb, hml, hown, hts⟩ (k_X0_takeOut l hT (rf (rf (rf a0 0) 1) u1.toNatClampNeg) v2_2 (rc_t_25 hT (rc_t_2_1 hT (rc_t_8_0 hT h0)) hi_3) H.size _ _ _ hc_8) (cwV 1 hts (rc_gV tw_4_104 tw_4_105 tw_4_106 tw_1_5 tw_4_107) rfl rfl rfl (by decide +kernel) ⟨Nat.le_of_ble_eq_true rfl, Nat.le_of_ble_eq_true rfl⟩) (rc_preV hT hW hK hE hS (rc_t_25 hT (rc_t_2_1 hT (rc_t_8_0 hT h0)) hi_3) (by decide) rfl (q := (RX0, TX0, 6)) rfl [.int v2_2]) rfl rfl hl.1 rfl (lv_room (Nat.le_of_ble_eq_true rfl)) dX7_letPanelDrink_123 ⟨Nat.le_of_ble_eq_true rfl, Nat.le_of_ble_eq_true rfl⟩) (fun H locs hW hS => ?_)
          have hm := hm0
          clear hm0 hc_8
          refine lv_pop hx hb dX7_letPanelDrink_126 rfl ?_
          refine lv_aload_n hx hb dX7_letPanelDrink_127 rfl (lv_at hl 4 rfl) ?_
          refine rg_8_0 hx hb hts hown hK hW h0 tw_1_226 dX7_letPanelDrink_128 ?_
          refine lv_dup hx hb dX7_letPanelDrink_131 rfl ?_
          refine rg_2_11 hx hb hts hown hK hW (rc_t_8_0 hT h0) tw_1_172 dX7_letPanelDrink_132 ?_
          refine lv_iload_n hx hb dX7_letPanelDrink_135 rfl (lv_at hl 3 rfl) ?_
          refine lv_iadd hx hb dX7_letPanelDrink_136 ?_
          refine rp_2_11 hx hb hts hown hK hW hS (rc_t_8_0 hT h0) tw_1_172 dX7_letPanelDrink_137 (fun σ_9 H locs eσ hW hS => ?_)
          replace hm := rc_lt_at hm eσ
          clear eσ
          refine lv_iload hx hb dX7_letPanelDrink_140 (lv_at hl 0 rfl) ?_
          refine lv_if_ne (tgt := 148) hx hb dX7_letPanelDrink_142 (by decide) (fun c9 => absurd c9 (by decide)) (fun _ => ?_)
          refine lv_iload hx hb dX7_letPanelDrink_145 (lv_at hl 1 rfl) ?_
          exact rc_eiret hx hb hr hlocks hW hS (Nat.le_of_ble_eq_true rfl) (Nat.le_of_ble_eq_true rfl) hm dX7_letPanelDrink_147
        · replace hm := rc_f hm c_15
          refine lv_iconst (v := 1) hx hb dX7_letPanelDrink_114 (by decide) ?_
          refine lv_goto (tgt := 119) hx hb dX7_letPanelDrink_115 (by decide) ?_
          refine lv_istore (lv' := [(5, .int (1 : Int32)), (4, .int v4_5), (3, .ref (rf (rf (rf a0 0) 1) u1.toNatClampNeg)), (2, .int v2_2), (0, .ref a0), (1, .int u1)]) hx hb dX7_letPanelDrink_119 hl (by decide) rfl (fun ls hl => ?_)
          refine lv_aload_n hx hb dX7_letPanelDrink_121 rfl (lv_at hl 2 rfl) ?_
          refine lv_iload_n hx hb dX7_letPanelDrink_122 rfl (lv_at hl 3 rfl) ?_
          obtain ⟨w_10, σ_10, hc_10, hm0⟩ := rc_bd_inv hm
          clear hm
          refine rc_ci hS (va_runV (As := [.int v2_2]) (rest := []) ⟨hx, hb, hml, hown, hts⟩ (k_X0_takeOut l hT (rf (rf (rf a0 0) 1) u1.toNatClampNeg) v2_2 (rc_t_25 hT (rc_t_2_1 hT (rc_t_8_0 hT h0)) hi_3) H.size _ _ _ hc_10) (cwV 1 hts (rc_gV tw_4_104 tw_4_105 tw_4_106 tw_1_5 tw_4_107) rfl rfl rfl (by decide +kernel) ⟨Nat.le_of_ble_eq_true rfl, Nat.le_of_ble_eq_true rfl⟩) (rc_preV hT hW hK hE hS (rc_t_25 hT (rc_t_2_1 hT (rc_t_8_0 hT h0)) hi_3) (by decide) rfl (q := (RX0, TX0, 6)) rfl [.int v2_2]) rfl rfl hl.1 rfl (lv_room (Nat.le_of_ble_eq_true rfl)) dX7_letPanelDrink_123 ⟨Nat.le_of_ble_eq_true rfl, Nat.le_of_ble_eq_true rfl⟩) (fun H locs hW hS => ?_)
          have hm := hm0
          clear hm0 hc_10
          refine lv_pop hx hb dX7_letPanelDrink_126 rfl ?_
          refine lv_aload_n hx hb dX7_letPanelDrink_127 rfl (lv_at hl 4 rfl) ?_
          refine rg_8_0 hx hb hts hown hK hW h0 tw_1_226 dX7_letPanelDrink_128 ?_
          refine lv_dup hx hb dX7_letPanelDrink_131 rfl ?_
          refine rg_2_11 hx hb hts hown hK hW (rc_t_8_0 hT h0) tw_1_172 dX7_letPanelDrink_132 ?_
          refine lv_iload_n hx hb dX7_letPanelDrink_135 rfl (lv_at hl 3 rfl) ?_
          refine lv_iadd hx hb dX7_letPanelDrink_136 ?_
          refine rp_2_11 hx hb hts hown hK hW hS (rc_t_8_0 hT h0) tw_1_172 dX7_letPanelDrink_137 (fun σ_11 H locs eσ hW hS => ?_)
          replace hm := rc_lt_at hm eσ
          clear eσ
          refine lv_iload hx hb dX7_letPanelDrink_140 (lv_at hl 0 rfl) ?_
          refine lv_if_ne (tgt := 148) hx hb dX7_letPanelDrink_142 (by decide) (fun _ => ?_) (fun c9 => absurd c9 (by decide))
          refine lv_aload_n hx hb dX7_letPanelDrink_148 rfl (lv_at hl 4 rfl) ?_
          refine rg_8_0 hx hb hts hown hK hW h0 tw_1_226 dX7_letPanelDrink_149 ?_
          refine lv_dup hx hb dX7_letPanelDrink_152 rfl ?_
          refine rg_2_12 hx hb hts hown hK hW (rc_t_8_0 hT h0) tw_1_175 dX7_letPanelDrink_153 ?_
          refine lv_aload_n hx hb dX7_letPanelDrink_156 rfl (lv_at hl 2 rfl) ?_
          refine rg_1_1 hx hb hts hown hK hW (rc_t_25 hT (rc_t_2_1 hT (rc_t_8_0 hT h0)) hi_3) tw_1_90 dX7_letPanelDrink_157 ?_
          refine lv_iadd hx hb dX7_letPanelDrink_160 ?_
          refine rp_2_12 hx hb hts hown hK hW hS (rc_t_8_0 hT h0) tw_1_175 dX7_letPanelDrink_161 (fun σ_12 H locs eσ hW hS => ?_)
          replace hm := rc_lt_at hm eσ
          clear eσ
          refine lv_aload_n hx hb dX7_letPanelDrink_164 rfl (lv_at hl 4 rfl) ?_
          refine rg_8_0 hx hb hts hown hK hW h0 tw_1_226 dX7_letPanelDrink_165 ?_
          refine lv_dup hx hb dX7_letPanelDrink_168 rfl ?_
          refine rg_2_13 hx hb hts hown hK hW (rc_t_8_0 hT h0) tw_1_178 dX7_letPanelDrink_169 ?_
          refine lv_iconst (v := 1) hx hb dX7_letPanelDrink_172 (by decide) ?_
          refine lv_iadd hx hb dX7_letPanelDrink_173 ?_
          refine rp_2_13 hx hb hts hown hK hW hS (rc_t_8_0 hT h0) tw_1_178 dX7_letPanelDrink_174 (fun σ_13 H locs eσ hW hS => ?_)
          replace hm := rc_lt_at hm eσ
          clear eσ
          refine lv_aload_n hx hb dX7_letPanelDrink_177 rfl (lv_at hl 2 rfl) ?_
          obtain ⟨w_14, σ_14, hc_14, hm0⟩ := rc_bd_inv hm
          clear hm
          refine rc_cv hS (va_runV (As := []) (rest := []) ⟨hx, hb, hml, hown, hts⟩ (k_X0_makeEmpty l hT (rf (rf (rf a0 0) 1) u1.toNatClampNeg) (rc_t_25 hT (rc_t_2_1 hT (rc_t_8_0 hT h0)) hi_3) H.size _ _ _ hc_14) (cwV 0 hts (rc_gV tw_4_114 tw_3_189 tw_3_190 tw_1_5 tw_3_191) rfl rfl rfl (by decide +kernel) ⟨Nat.le_of_ble_eq_true rfl, Nat.le_of_ble_eq_true rfl⟩) (rc_preV hT hW hK hE hS (rc_t_25 hT (rc_t_2_1 hT (rc_t_8_0 hT h0)) hi_3) (by decide) rfl (q := (RX0, TX0, 6)) rfl []) rfl rfl hl.1 rfl (lv_room (Nat.le_of_ble_eq_true rfl)) dX7_letPanelDrink_178 ⟨Nat.le_of_ble_eq_true rfl, Nat.le_of_ble_eq_true rfl⟩) (fun H locs hW hS => ?_)
          have hm := hm0
          clear hm0 hc_14
          refine lv_iconst (v := 0) hx hb dX7_letPanelDrink_181 (by decide) ?_
          exact rc_eiret hx hb hr hlocks hW hS (Nat.le_of_ble_eq_true rfl) (Nat.le_of_ble_eq_true rfl) hm dX7_letPanelDrink_182
      · replace hm := rc_f hm c_17
        refine lv_aload_n hx hb dX7_letPanelDrink_71 rfl (lv_at hl 2 rfl) ?_
        refine rg_8_1 hx hb hts hown hK hW h0 tw_1_228 dX7_letPanelDrink_72 ?_
        refine lv_bipush (v := 6) hx hb dX7_letPanelDrink_75 (by decide) ?_
        refine lv_aload_n hx hb dX7_letPanelDrink_77 rfl (lv_at hl 0 rfl) ?_
        refine rg_1_1 hx hb hts hown hK hW (rc_t_25 hT (rc_t_2_1 hT (rc_t_8_0 hT h0)) hi_3) tw_1_90 dX7_letPanelDrink_78 ?_
        obtain ⟨w_16, σ_16, hc_16, hm0⟩ := rc_bd_inv hm
        clear hm
        refine rc_ci hS (va_runV (As := [.int (6 : Int32), .int (σ_1 (rf (rf (rf a0 0) 1) u1.toNatClampNeg) 1)]) (rest := []) ⟨hx, hb, hml, hown, hts⟩ (k_X5_because l hT (rf a0 1) (6 : Int32) (σ_1 (rf (rf (rf a0 0) 1) u1.toNatClampNeg) 1) (rc_t_8_1 hT h0) H.size _ _ _ hc_16) (cwV 2 hts (rc_gV tw_3_180 tw_3_181 tw_3_182 tw_1_7 tw_3_183) rfl rfl rfl (by decide +kernel) ⟨Nat.le_of_ble_eq_true rfl, Nat.le_of_ble_eq_true rfl⟩) (rc_preV hT hW hK hE hS (rc_t_8_1 hT h0) (by decide) rfl (q := (RX5, TX5, 3)) rfl [.int (6 : Int32), .int (σ_1 (rf (rf (rf a0 0) 1) u1.toNatClampNeg) 1)]) rfl rfl hl.1 rfl (lv_room (Nat.le_of_ble_eq_true rfl)) dX7_letPanelDrink_81 ⟨Nat.le_of_ble_eq_true rfl, Nat.le_of_ble_eq_true rfl⟩) (fun H locs hW hS => ?_)
        have hm := hm0
        clear hm0 hc_16
        exact rc_eiret hx hb hr hlocks hW hS (Nat.le_of_ble_eq_true rfl) (Nat.le_of_ble_eq_true rfl) hm dX7_letPanelDrink_84
    · replace hm := rc_t hm c_19
      refine lv_aload_n hx hb dX7_letPanelDrink_42 rfl (lv_at hl 1 rfl) ?_
      refine rg_8_1 hx hb hts hown hK hW h0 tw_1_228 dX7_letPanelDrink_43 ?_
      refine lv_bipush (v := 11) hx hb dX7_letPanelDrink_46 (by decide) ?_
      refine lv_iconst (v := 0) hx hb dX7_letPanelDrink_48 (by decide) ?_
      obtain ⟨w_18, σ_18, hc_18, hm0⟩ := rc_bd_inv hm
      clear hm
      refine rc_ci hS (va_runV (As := [.int (11 : Int32), .int (0 : Int32)]) (rest := []) ⟨hx, hb, hml, hown, hts⟩ (k_X5_because l hT (rf a0 1) (11 : Int32) (0 : Int32) (rc_t_8_1 hT h0) H.size _ _ _ hc_18) (cwV 2 hts (rc_gV tw_3_180 tw_3_181 tw_3_182 tw_1_7 tw_3_183) rfl rfl rfl (by decide +kernel) ⟨Nat.le_of_ble_eq_true rfl, Nat.le_of_ble_eq_true rfl⟩) (rc_preV hT hW hK hE hS (rc_t_8_1 hT h0) (by decide) rfl (q := (RX5, TX5, 3)) rfl [.int (11 : Int32), .int (0 : Int32)]) rfl rfl hl.1 rfl (lv_room (Nat.le_of_ble_eq_true rfl)) dX7_letPanelDrink_49 ⟨Nat.le_of_ble_eq_true rfl, Nat.le_of_ble_eq_true rfl⟩) (fun H locs hW hS => ?_)
      have hm := hm0
      clear hm0 hc_18
      exact rc_eiret hx hb hr hlocks hW hS (Nat.le_of_ble_eq_true rfl) (Nat.le_of_ble_eq_true rfl) hm dX7_letPanelDrink_52
  · replace hm := rc_t hm c_21
    refine lv_aload_n hx hb dX7_letPanelDrink_11 rfl (lv_at hl 0 rfl) ?_
    refine rg_8_1 hx hb hts hown hK hW h0 tw_1_228 dX7_letPanelDrink_12 ?_
    refine lv_iconst (v := 3) hx hb dX7_letPanelDrink_15 (by decide) ?_
    refine lv_aload_n hx hb dX7_letPanelDrink_16 rfl (lv_at hl 0 rfl) ?_
    refine rg_8_0 hx hb hts hown hK hW h0 tw_1_226 dX7_letPanelDrink_17 ?_
    refine rg_2_2 hx hb hts hown hK hW (rc_t_8_0 hT h0) tw_1_147 dX7_letPanelDrink_20 ?_
    obtain ⟨w_20, σ_20, hc_20, hm0⟩ := rc_bd_inv hm
    clear hm
    refine rc_ci hS (va_runV (As := [.int (3 : Int32), .int (σ_1 (rf a0 0) 2)]) (rest := []) ⟨hx, hb, hml, hown, hts⟩ (k_X5_because l hT (rf a0 1) (3 : Int32) (σ_1 (rf a0 0) 2) (rc_t_8_1 hT h0) H.size _ _ _ hc_20) (cwV 2 hts (rc_gV tw_3_180 tw_3_181 tw_3_182 tw_1_7 tw_3_183) rfl rfl rfl (by decide +kernel) ⟨Nat.le_of_ble_eq_true rfl, Nat.le_of_ble_eq_true rfl⟩) (rc_preV hT hW hK hE hS (rc_t_8_1 hT h0) (by decide) rfl (q := (RX5, TX5, 3)) rfl [.int (3 : Int32), .int (σ_1 (rf a0 0) 2)]) rfl rfl hl.1 rfl (lv_room (Nat.le_of_ble_eq_true rfl)) dX7_letPanelDrink_23 ⟨Nat.le_of_ble_eq_true rfl, Nat.le_of_ble_eq_true rfl⟩) (fun H locs hW hS => ?_)
    have hm := hm0
    clear hm0 hc_20
    exact rc_eiret hx hb hr hlocks hW hS (Nat.le_of_ble_eq_true rfl) (Nat.le_of_ble_eq_true rfl) hm dX7_letPanelDrink_26
set_option maxHeartbeats 4000000 in
set_option maxRecDepth 100000 in
theorem k_X8_drink (l : Launch) (hl9 : l.stackTraces = false) {Y : rc_Y} {sh : Nat → Nat} {rf : rc_F} (hT : rc_T Y sh rf) (a0 : Nat) (u1 : Int32) (h0 : sh a0 = 9) (sz : Nat) (σ σ' : rc_S) (k : Nat) (r : Int32) (hm : f_X8_drink rf a0 u1 σ = some (k, r, σ')) : vx_Met l yX8_drink (Cond.code yX8_drink cX8_drink 2 (some .int) :: rc_big) ({ frames := 7, cells := 1, slots := 6, locals := 130 } : Room) (rc_P Y sh rf σ sz [.ref a0, .int u1]) (va_Qi (fun (r' : Int32) (_ : Unit) => k = 0 ∧ r' = r) (fun _ t => rc_W Y sh rf σ' t.heap) (rc_A sh sz)) (rc_XC Y sh rf σ' k sz) 1 6 (rc_A sh sz) := by
  refine vx_ofW (cc := cX8_drink) (maxL := 2) (ret := (some .int)) (by decide +kernel) rfl ?_
  intro p e s m args below meth c s₁ B hml hout hv
  obtain ⟨rfl, hsz, hW, hK, hE⟩ := hv
  have hx := B.exec
  have hb := B.bytes
  have hr := B.returns
  have hts : ∀ w ∈ rc_big, w.before _ s = true := fun w h => atoms_spec (ws := Cond.code yX8_drink cX8_drink 2 (some .int) :: rc_big) B.pre w (List.mem_cons_of_mem _ h)
  have hown : s.vm.findClass RX8 = some m.cls := findClass_of_methodNamed B.named
  have hlocks := B.notSynchronized
  clear B
  subst hsz
  have hS : va_S (rc_A sh s.heap.size) s.heap s.heap [] := va_S.rf
  have hl := lv_entry ([.ref a0, .int u1]) (n := 2) (Nat.le_of_ble_eq_true rfl)
  rw [lg_entry_eq]
  generalize (lg_sl ([.ref a0, .int u1]) ++ List.replicate (2 - (lg_sl ([.ref a0, .int u1])).length) Slot.unset).toArray = ls at hl ⊢
  have hl : lv_has ls 2 [(0, .ref a0), (1, .int u1)] := hl
  unfold f_X8_drink at hm
  refine lv_aload_n hx hb dX8_drink_0 rfl (lv_at hl 0 rfl) ?_
  refine rg_9_5 hx hb hts hown hK hW h0 tw_2_87 dX8_drink_1 ?_
  refine lv_aload_n hx hb dX8_drink_4 rfl (lv_at hl 0 rfl) ?_
  refine rg_9_1 hx hb hts hown hK hW h0 tw_2_83 dX8_drink_5 ?_
  obtain ⟨w_1, σ_1, hc_1, hm0⟩ := rc_bd_inv hm
  clear hm
  refine rc_cv hS (va_runV (As := [.ref (rf a0 1)]) (rest := []) ⟨hx, hb, hml, hown, hts⟩ (k_X2_setAside l hT (rf a0 5) (rf a0 1) (rc_t_9_5 hT h0) (rc_t_9_1 hT h0) s.heap.size _ _ _ hc_1) (cwV 1 hts (rc_gV tw_3_140 tw_3_141 tw_3_142 tw_1_8 tw_3_143) rfl rfl rfl (by decide +kernel) ⟨Nat.le_of_ble_eq_true rfl, Nat.le_of_ble_eq_true rfl⟩) (rc_preV hT hW hK hE hS (rc_t_9_5 hT h0) (by decide) rfl (q := (RX2, TX2, 3)) rfl [.ref (rf a0 1)]) rfl rfl hl.1 rfl (lv_room (Nat.le_of_ble_eq_true rfl)) dX8_drink_8 ⟨Nat.le_of_ble_eq_true rfl, Nat.le_of_ble_eq_true rfl⟩) (fun H locs hW hS => ?_)
  have hm := hm0
  clear hm0 hc_1
  refine lv_aload_n hx hb dX8_drink_11 rfl (lv_at hl 0 rfl) ?_
  refine lv_aload_n hx hb dX8_drink_12 rfl (lv_at hl 0 rfl) ?_
  refine rg_9_0 hx hb hts hown hK hW h0 tw_2_82 dX8_drink_13 ?_
  refine lv_iload_n hx hb dX8_drink_16 rfl (lv_at hl 1 rfl) ?_
  obtain ⟨w_2, σ_2, hc_2, hm0⟩ := rc_bd_inv hm
  clear hm
  refine rc_ci hS (va_runV (As := [.int u1]) (rest := [.ref a0]) ⟨hx, hb, hml, hown, hts⟩ (k_X7_letPanelDrink l hT (rf a0 0) u1 (rc_t_9_0 hT h0) H.size _ _ _ hc_2) (cwV 1 hts (rc_gV tw_4_98 tw_4_99 tw_4_100 tw_1_2 tw_4_101) rfl rfl rfl (by decide +kernel) ⟨Nat.le_of_ble_eq_true rfl, Nat.le_of_ble_eq_true rfl⟩) (rc_preV hT hW hK hE hS (rc_t_9_0 hT h0) (by decide) rfl (q := (RX7, TX7, 2)) rfl [.int u1]) rfl rfl hl.1 rfl (lv_room (Nat.le_of_ble_eq_true rfl)) dX8_drink_17 ⟨Nat.le_of_ble_eq_true rfl, Nat.le_of_ble_eq_true rfl⟩) (fun H locs hW hS => ?_)
  have hm := hm0
  clear hm0 hc_2
  obtain ⟨k_3, w_3, σ_3, hc_3, hm0, hk_3⟩ := rc_bx_inv hm
  clear hm
  refine rc_xci hout hlocks hS hk_3 (Nat.le_of_ble_eq_true rfl) (Nat.le_of_ble_eq_true rfl) (vx_runV (As := [.int w_2]) (rest := []) ⟨hx, hb, hml, hown, hts⟩ (k_X8_kept l hl9 hT a0 w_2 h0 H.size _ _ _ _ hc_3) (cwV 1 hts (rc_gV tw_3_192 tw_3_194 tw_p_6 tw_1_1 tw_3_195) rfl rfl rfl (by decide +kernel) ⟨Nat.le_of_ble_eq_true rfl, Nat.le_of_ble_eq_true rfl⟩) (rc_preV hT hW hK hE hS h0 (by decide) rfl (q := (RX8, TX8, 9)) rfl [.int w_2]) rfl rfl hl.1 rfl (lv_room (Nat.le_of_ble_eq_true rfl)) dX8_drink_20 ⟨Nat.le_of_ble_eq_true rfl, Nat.le_of_ble_eq_true rfl⟩) (fun H locs h0_3 hW hS => ?_)
  have hm := hm0 h0_3
  clear hm0 hc_3 hk_3
  exact rc_xiret hx hb hr hlocks hW hS (Nat.le_of_ble_eq_true rfl) (Nat.le_of_ble_eq_true rfl) hm dX8_drink_23
set_option maxHeartbeats 4000000 in
set_option maxRecDepth 100000 in
theorem k_X8_note (l : Launch) (hl9 : l.stackTraces = false) {Y : rc_Y} {sh : Nat → Nat} {rf : rc_F} (hT : rc_T Y sh rf) (a0 : Nat) (u1 : Int32) (h0 : sh a0 = 9) (sz : Nat) (σ σ' : rc_S) (k : Nat) (r : Int32) (hm : f_X8_note rf a0 u1 σ = some (k, r, σ')) : vx_Met l yX8_note (Cond.code yX8_note cX8_note 2 (some .int) :: rc_big) ({ frames := 8, cells := 2, slots := 12, locals := 124 } : Room) (rc_P Y sh rf σ sz [.ref a0, .int u1]) (va_Qi (fun (r' : Int32) (_ : Unit) => k = 0 ∧ r' = r) (fun _ t => rc_W Y sh rf σ' t.heap) (rc_A sh sz)) (rc_XC Y sh rf σ' k sz) 2 12 (rc_A sh sz) := by
  refine vx_ofW (cc := cX8_note) (maxL := 2) (ret := (some .int)) (by decide +kernel) rfl ?_
  intro p e s m args below meth c s₁ B hml hout hv
  obtain ⟨rfl, hsz, hW, hK, hE⟩ := hv
  have hx := B.exec
  have hb := B.bytes
  have hr := B.returns
  have hts : ∀ w ∈ rc_big, w.before _ s = true := fun w h => atoms_spec (ws := Cond.code yX8_note cX8_note 2 (some .int) :: rc_big) B.pre w (List.mem_cons_of_mem _ h)
  have hown : s.vm.findClass RX8 = some m.cls := findClass_of_methodNamed B.named
  have hlocks := B.notSynchronized
  clear B
  subst hsz
  have hS : va_S (rc_A sh s.heap.size) s.heap s.heap [] := va_S.rf
  have hl := lv_entry ([.ref a0, .int u1]) (n := 2) (Nat.le_of_ble_eq_true rfl)
  rw [lg_entry_eq]
  generalize (lg_sl ([.ref a0, .int u1]) ++ List.replicate (2 - (lg_sl ([.ref a0, .int u1])).length) Slot.unset).toArray = ls at hl ⊢
  have hl : lv_has ls 2 [(0, .ref a0), (1, .int u1)] := hl
  unfold f_X8_note at hm
  refine lv_aload_n hx hb dX8_note_0 rfl (lv_at hl 0 rfl) ?_
  refine rg_9_1 hx hb hts hown hK hW h0 tw_2_83 dX8_note_1 ?_
  refine lv_aload_n hx hb dX8_note_4 rfl (lv_at hl 0 rfl) ?_
  refine lv_iload_n hx hb dX8_note_5 rfl (lv_at hl 1 rfl) ?_
  obtain ⟨k_1, w_1, σ_1, hc_1, hm0, hk_1⟩ := rc_bx_inv hm
  clear hm
  refine rc_xcr hout hlocks hS hk_1 (Nat.le_of_ble_eq_true rfl) (Nat.le_of_ble_eq_true rfl) (vx_runV (As := [.int u1]) (rest := [.ref (rf a0 1)]) ⟨hx, hb, hml, hown, hts⟩ (k_X8_filled l hl9 hT a0 u1 h0 s.heap.size _ _ _ _ hc_1) (cwV 1 hts (rc_gV tw_2_205 tw_2_207 tw_p_1 tw_1_1 tw_2_208) rfl rfl rfl (by decide +kernel) ⟨Nat.le_of_ble_eq_true rfl, Nat.le_of_ble_eq_true rfl⟩) (rc_preV hT hW hK hE hS h0 (by decide) rfl (q := (RX8, TX8, 9)) rfl [.int u1]) rfl rfl hl.1 rfl (lv_room (Nat.le_of_ble_eq_true rfl)) dX8_note_6 ⟨Nat.le_of_ble_eq_true rfl, Nat.le_of_ble_eq_true rfl⟩) (fun H locs h0_1 hr_1 hW hS => ?_)
  have hm := hm0 h0_1
  clear hm0 hc_1 hk_1
  obtain ⟨w_2, σ_2, hc_2, hm0⟩ := rc_bd_inv hm
  clear hm
  refine rc_ci hS (va_runV (As := [.ref w_1]) (rest := []) ⟨hx, hb, hml, hown, hts⟩ (k_X1_noteOf l hT (rf a0 1) w_1 (rc_t_9_1 hT h0) hr_1 H.size _ _ _ hc_2) (cwV 1 hts (rc_gV tw_3_17 tw_3_18 tw_3_19 tw_1_3 tw_3_20) rfl rfl rfl (by decide +kernel) ⟨Nat.le_of_ble_eq_true rfl, Nat.le_of_ble_eq_true rfl⟩) (rc_preV hT hW hK hE hS (rc_t_9_1 hT h0) (by decide) rfl (q := (RX1, TX1, 14)) rfl [.ref w_1]) rfl rfl hl.1 rfl (lv_room (Nat.le_of_ble_eq_true rfl)) dX8_note_9 ⟨Nat.le_of_ble_eq_true rfl, Nat.le_of_ble_eq_true rfl⟩) (fun H locs hW hS => ?_)
  have hm := hm0
  clear hm0 hc_2
  exact rc_xiret hx hb hr hlocks hW hS (Nat.le_of_ble_eq_true rfl) (Nat.le_of_ble_eq_true rfl) hm dX8_note_12
set_option maxHeartbeats 4000000 in
set_option maxRecDepth 100000 in
theorem k_X8_noteAgain (l : Launch) (hl9 : l.stackTraces = false) {Y : rc_Y} {sh : Nat → Nat} {rf : rc_F} (hT : rc_T Y sh rf) (a0 : Nat) (u1 : Int32) (h0 : sh a0 = 9) (sz : Nat) (σ σ' : rc_S) (k : Nat) (r : Int32) (hm : f_X8_noteAgain rf a0 u1 σ = some (k, r, σ')) : vx_Met l yX8_noteAgain (Cond.code yX8_noteAgain cX8_noteAgain 3 (some .int) :: rc_big) ({ frames := 8, cells := 2, slots := 12, locals := 124 } : Room) (rc_P Y sh rf σ sz [.ref a0, .int u1]) (va_Qi (fun (r' : Int32) (_ : Unit) => k = 0 ∧ r' = r) (fun _ t => rc_W Y sh rf σ' t.heap) (rc_A sh sz)) (rc_XC Y sh rf σ' k sz) 2 12 (rc_A sh sz) := by
  refine vx_ofW (cc := cX8_noteAgain) (maxL := 3) (ret := (some .int)) (by decide +kernel) rfl ?_
  intro p e s m args below meth c s₁ B hml hout hv
  obtain ⟨rfl, hsz, hW, hK, hE⟩ := hv
  have hx := B.exec
  have hb := B.bytes
  have hr := B.returns
  have hts : ∀ w ∈ rc_big, w.before _ s = true := fun w h => atoms_spec (ws := Cond.code yX8_noteAgain cX8_noteAgain 3 (some .int) :: rc_big) B.pre w (List.mem_cons_of_mem _ h)
  have hown : s.vm.findClass RX8 = some m.cls := findClass_of_methodNamed B.named
  have hlocks := B.notSynchronized
  clear B
  subst hsz
  have hS : va_S (rc_A sh s.heap.size) s.heap s.heap [] := va_S.rf
  have hl := lv_entry ([.ref a0, .int u1]) (n := 3) (Nat.le_of_ble_eq_true rfl)
  rw [lg_entry_eq]
  generalize (lg_sl ([.ref a0, .int u1]) ++ List.replicate (3 - (lg_sl ([.ref a0, .int u1])).length) Slot.unset).toArray = ls at hl ⊢
  have hl : lv_has ls 3 [(0, .ref a0), (1, .int u1)] := hl
  unfold f_X8_noteAgain at hm
  refine lv_aload_n hx hb dX8_noteAgain_0 rfl (lv_at hl 0 rfl) ?_
  refine lv_iload_n hx hb dX8_noteAgain_1 rfl (lv_at hl 1 rfl) ?_
  obtain ⟨k_1, w_1, σ_1, hc_1, hm0, hk_1⟩ := rc_bx_inv hm
  clear hm
  refine rc_xcr hout hlocks hS hk_1 (Nat.le_of_ble_eq_true rfl) (Nat.le_of_ble_eq_true rfl) (vx_runV (As := [.int u1]) (rest := []) ⟨hx, hb, hml, hown, hts⟩ (k_X8_filled l hl9 hT a0 u1 h0 s.heap.size _ _ _ _ hc_1) (cwV 1 hts (rc_gV tw_2_205 tw_2_207 tw_p_1 tw_1_1 tw_2_208) rfl rfl rfl (by decide +kernel) ⟨Nat.le_of_ble_eq_true rfl, Nat.le_of_ble_eq_true rfl⟩) (rc_preV hT hW hK hE hS h0 (by decide) rfl (q := (RX8, TX8, 9)) rfl [.int u1]) rfl rfl hl.1 rfl (lv_room (Nat.le_of_ble_eq_true rfl)) dX8_noteAgain_2 ⟨Nat.le_of_ble_eq_true rfl, Nat.le_of_ble_eq_true rfl⟩) (fun H locs h0_1 hr_1 hW hS => ?_)
  have hm := hm0 h0_1
  clear hm0 hc_1 hk_1
  refine lv_astore_n (lv' := [(2, .ref w_1), (0, .ref a0), (1, .int u1)]) hx hb dX8_noteAgain_5 rfl hl (by decide) rfl (fun ls hl => ?_)
  refine lv_aload_n hx hb dX8_noteAgain_6 rfl (lv_at hl 0 rfl) ?_
  refine lv_aload_n hx hb dX8_noteAgain_7 rfl (lv_at hl 0 rfl) ?_
  refine lv_aload_n hx hb dX8_noteAgain_8 rfl (lv_at hl 1 rfl) ?_
  refine rg_9_1 hx hb hts hown hK hW h0 tw_2_83 dX8_noteAgain_9 ?_
  refine rg_2_7 hx hb hts hown hK hW (rc_t_9_1 hT h0) tw_1_161 dX8_noteAgain_12 ?_
  obtain ⟨w_2, σ_2, hc_2, hm0⟩ := rc_bd_inv hm
  clear hm
  refine rc_ci hS (va_runV (As := [.int (σ_1 (rf a0 1) 7)]) (rest := [.ref w_1]) ⟨hx, hb, hml, hown, hts⟩ (k_X0_ageIn l hT w_1 (σ_1 (rf a0 1) 7) hr_1 H.size _ _ _ hc_2) (cwV 1 hts (rc_gV tw_6_52 tw_3_22 tw_3_23 tw_1_5 tw_3_24) rfl rfl rfl (by decide +kernel) ⟨Nat.le_of_ble_eq_true rfl, Nat.le_of_ble_eq_true rfl⟩) (rc_preV hT hW hK hE hS hr_1 (by decide) rfl (q := (RX0, TX0, 6)) rfl [.int (σ_1 (rf a0 1) 7)]) rfl rfl hl.1 rfl (lv_room (Nat.le_of_ble_eq_true rfl)) dX8_noteAgain_15 ⟨Nat.le_of_ble_eq_true rfl, Nat.le_of_ble_eq_true rfl⟩) (fun H locs hW hS => ?_)
  have hm := hm0
  clear hm0 hc_2
  obtain ⟨w_3, σ_3, hc_3, hm0⟩ := rc_bd_inv hm
  clear hm
  refine rc_ci hS (va_runV (As := [.int w_2]) (rest := []) ⟨hx, hb, hml, hown, hts⟩ (k_X0_noteYearByYear l hT w_1 w_2 hr_1 H.size _ _ _ hc_3) (cwV 1 hts (rc_gV tw_6_154 tw_6_155 tw_6_156 tw_1_5 tw_6_157) rfl rfl rfl (by decide +kernel) ⟨Nat.le_of_ble_eq_true rfl, Nat.le_of_ble_eq_true rfl⟩) (rc_preV hT hW hK hE hS hr_1 (by decide) rfl (q := (RX0, TX0, 6)) rfl [.int w_2]) rfl rfl hl.1 rfl (lv_room (Nat.le_of_ble_eq_true rfl)) dX8_noteAgain_18 ⟨Nat.le_of_ble_eq_true rfl, Nat.le_of_ble_eq_true rfl⟩) (fun H locs hW hS => ?_)
  have hm := hm0
  clear hm0 hc_3
  exact rc_xiret hx hb hr hlocks hW hS (Nat.le_of_ble_eq_true rfl) (Nat.le_of_ble_eq_true rfl) hm dX8_noteAgain_21
set_option maxHeartbeats 4000000 in
set_option maxRecDepth 100000 in
theorem k_X8_noteIn (l : Launch) (hl9 : l.stackTraces = false) {Y : rc_Y} {sh : Nat → Nat} {rf : rc_F} (hT : rc_T Y sh rf) (a0 : Nat) (u1 : Int32) (u2 : Int32) (h0 : sh a0 = 9) (sz : Nat) (σ σ' : rc_S) (k : Nat) (r : Int32) (hm : f_X8_noteIn rf a0 u1 u2 σ = some (k, r, σ')) : vx_Met l yX8_noteIn (Cond.code yX8_noteIn cX8_noteIn 4 (some .int) :: rc_big) ({ frames := 8, cells := 3, slots := 18, locals := 124 } : Room) (rc_P Y sh rf σ sz [.ref a0, .int u1, .int u2]) (va_Qi (fun (r' : Int32) (_ : Unit) => k = 0 ∧ r' = r) (fun _ t => rc_W Y sh rf σ' t.heap) (rc_A sh sz)) (rc_XC Y sh rf σ' k sz) 3 18 (rc_A sh sz) := by
  refine vx_ofW (cc := cX8_noteIn) (maxL := 4) (ret := (some .int)) (by decide +kernel) rfl ?_
  intro p e s m args below meth c s₁ B hml hout hv
  obtain ⟨rfl, hsz, hW, hK, hE⟩ := hv
  have hx := B.exec
  have hb := B.bytes
  have hr := B.returns
  have hts : ∀ w ∈ rc_big, w.before _ s = true := fun w h => atoms_spec (ws := Cond.code yX8_noteIn cX8_noteIn 4 (some .int) :: rc_big) B.pre w (List.mem_cons_of_mem _ h)
  have hown : s.vm.findClass RX8 = some m.cls := findClass_of_methodNamed B.named
  have hlocks := B.notSynchronized
  clear B
  subst hsz
  have hS : va_S (rc_A sh s.heap.size) s.heap s.heap [] := va_S.rf
  have hl := lv_entry ([.ref a0, .int u1, .int u2]) (n := 4) (Nat.le_of_ble_eq_true rfl)
  rw [lg_entry_eq]
  generalize (lg_sl ([.ref a0, .int u1, .int u2]) ++ List.replicate (4 - (lg_sl ([.ref a0, .int u1, .int u2])).length) Slot.unset).toArray = ls at hl ⊢
  have hl : lv_has ls 4 [(0, .ref a0), (1, .int u1), (2, .int u2)] := hl
  unfold f_X8_noteIn at hm
  refine lv_aload_n hx hb dX8_noteIn_0 rfl (lv_at hl 0 rfl) ?_
  refine lv_iload_n hx hb dX8_noteIn_1 rfl (lv_at hl 1 rfl) ?_
  obtain ⟨k_1, w_1, σ_1, hc_1, hm0, hk_1⟩ := rc_bx_inv hm
  clear hm
  refine rc_xcr hout hlocks hS hk_1 (Nat.le_of_ble_eq_true rfl) (Nat.le_of_ble_eq_true rfl) (vx_runV (As := [.int u1]) (rest := []) ⟨hx, hb, hml, hown, hts⟩ (k_X8_filled l hl9 hT a0 u1 h0 s.heap.size _ _ _ _ hc_1) (cwV 1 hts (rc_gV tw_2_205 tw_2_207 tw_p_1 tw_1_1 tw_2_208) rfl rfl rfl (by decide +kernel) ⟨Nat.le_of_ble_eq_true rfl, Nat.le_of_ble_eq_true rfl⟩) (rc_preV hT hW hK hE hS h0 (by decide) rfl (q := (RX8, TX8, 9)) rfl [.int u1]) rfl rfl hl.1 rfl (lv_room (Nat.le_of_ble_eq_true rfl)) dX8_noteIn_2 ⟨Nat.le_of_ble_eq_true rfl, Nat.le_of_ble_eq_true rfl⟩) (fun H locs h0_1 hr_1 hW hS => ?_)
  have hm := hm0 h0_1
  clear hm0 hc_1 hk_1
  refine lv_astore_n (lv' := [(3, .ref w_1), (0, .ref a0), (1, .int u1), (2, .int u2)]) hx hb dX8_noteIn_5 rfl hl (by decide) rfl (fun ls hl => ?_)
  refine lv_iload_n hx hb dX8_noteIn_6 rfl (lv_at hl 3 rfl) ?_
  refine lv_iconst (v := 0) hx hb dX8_noteIn_7 (by decide) ?_
  refine lv_bipush (v := 20) hx hb dX8_noteIn_8 (by decide) ?_
  obtain ⟨w_2, σ_2, hc_2, hm0⟩ := rc_bd_inv hm
  clear hm
  refine rc_ci hS (va_runS (As := [.int u2, .int (0 : Int32), .int (20 : Int32)]) (rest := []) ⟨hx, hb, hml, hown, hts⟩ (k_X8_isOutside l hT u2 (0 : Int32) (20 : Int32)  H.size _ _ _ hc_2) (va_cwS 3 hts (rc_gS tw_3_76 tw_3_77 tw_1_1 tw_3_78) rfl rfl rfl (by decide +kernel) ⟨Nat.le_of_ble_eq_true rfl, Nat.le_of_ble_eq_true rfl⟩) (rc_preS hT hW hK hE hS [.int u2, .int (0 : Int32), .int (20 : Int32)]) rfl rfl hl.1 rfl (lv_room (Nat.le_of_ble_eq_true rfl)) dX8_noteIn_10 ⟨Nat.le_of_ble_eq_true rfl, Nat.le_of_ble_eq_true rfl⟩) (fun H locs hW hS => ?_)
  have hm := hm0
  clear hm0 hc_2
  refine lv_if_eq (tgt := 24) hx hb dX8_noteIn_13 (by decide) (fun c_5 => ?_) (fun c_5 => ?_)
  · replace hm := rc_t hm c_5
    refine lv_aload_n hx hb dX8_noteIn_24 rfl (lv_at hl 0 rfl) ?_
    refine lv_aload_n hx hb dX8_noteIn_25 rfl (lv_at hl 0 rfl) ?_
    refine lv_aload_n hx hb dX8_noteIn_26 rfl (lv_at hl 1 rfl) ?_
    refine rg_9_1 hx hb hts hown hK hW h0 tw_2_83 dX8_noteIn_27 ?_
    refine rg_2_7 hx hb hts hown hK hW (rc_t_9_1 hT h0) tw_1_161 dX8_noteIn_30 ?_
    obtain ⟨w_3, σ_3, hc_3, hm0⟩ := rc_bd_inv hm
    clear hm
    refine rc_ci hS (va_runV (As := [.int (σ_2 (rf a0 1) 7)]) (rest := [.ref w_1]) ⟨hx, hb, hml, hown, hts⟩ (k_X0_ageIn l hT w_1 (σ_2 (rf a0 1) 7) hr_1 H.size _ _ _ hc_3) (cwV 1 hts (rc_gV tw_6_52 tw_3_22 tw_3_23 tw_1_5 tw_3_24) rfl rfl rfl (by decide +kernel) ⟨Nat.le_of_ble_eq_true rfl, Nat.le_of_ble_eq_true rfl⟩) (rc_preV hT hW hK hE hS hr_1 (by decide) rfl (q := (RX0, TX0, 6)) rfl [.int (σ_2 (rf a0 1) 7)]) rfl rfl hl.1 rfl (lv_room (Nat.le_of_ble_eq_true rfl)) dX8_noteIn_33 ⟨Nat.le_of_ble_eq_true rfl, Nat.le_of_ble_eq_true rfl⟩) (fun H locs hW hS => ?_)
    have hm := hm0
    clear hm0 hc_3
    refine lv_iload_n hx hb dX8_noteIn_36 rfl (lv_at hl 3 rfl) ?_
    refine lv_iadd hx hb dX8_noteIn_37 ?_
    obtain ⟨w_4, σ_4, hc_4, hm0⟩ := rc_bd_inv hm
    clear hm
    refine rc_ci hS (va_runV (As := [.int (w_3 + u2)]) (rest := []) ⟨hx, hb, hml, hown, hts⟩ (k_X0_noteAtAge l hT w_1 (w_3 + u2) hr_1 H.size _ _ _ hc_4) (cwV 1 hts (rc_gV tw_6_190 tw_3_27 tw_3_28 tw_1_5 tw_3_29) rfl rfl rfl (by decide +kernel) ⟨Nat.le_of_ble_eq_true rfl, Nat.le_of_ble_eq_true rfl⟩) (rc_preV hT hW hK hE hS hr_1 (by decide) rfl (q := (RX0, TX0, 6)) rfl [.int (w_3 + u2)]) rfl rfl hl.1 rfl (lv_room (Nat.le_of_ble_eq_true rfl)) dX8_noteIn_38 ⟨Nat.le_of_ble_eq_true rfl, Nat.le_of_ble_eq_true rfl⟩) (fun H locs hW hS => ?_)
    have hm := hm0
    clear hm0 hc_4
    exact rc_xiret hx hb hr hlocks hW hS (Nat.le_of_ble_eq_true rfl) (Nat.le_of_ble_eq_true rfl) hm dX8_noteIn_41
  · replace hm := rc_f hm c_5
    exact rc_throw (n := 3) hx hb hl9 hT hE hW hS hts hown rfl (by decide) (by decide) rc_hk_3 rc_hi_3 (rc_hat_3 hts hE) rc_hgd_3 (hl.1.trans hml.symm) dX8_noteIn_16 dX8_noteIn_19 dX8_noteIn_20 dX8_noteIn_23 hout ⟨Nat.le_of_ble_eq_true rfl, Nat.le_of_ble_eq_true rfl, Nat.le_of_ble_eq_true rfl, Nat.le_of_ble_eq_true rfl⟩ hlocks (Nat.le_of_ble_eq_true rfl) (Nat.le_of_ble_eq_true rfl) hm
set_option maxHeartbeats 4000000 in
set_option maxRecDepth 100000 in
theorem k_X8_hidden (l : Launch) (hl9 : l.stackTraces = false) {Y : rc_Y} {sh : Nat → Nat} {rf : rc_F} (hT : rc_T Y sh rf) (a0 : Nat) (u1 : Int32) (h0 : sh a0 = 9) (sz : Nat) (σ σ' : rc_S) (k : Nat) (r : Int32) (hm : f_X8_hidden rf a0 u1 σ = some (k, r, σ')) : vx_Met l yX8_hidden (Cond.code yX8_hidden cX8_hidden 4 (some .int) :: rc_big) ({ frames := 9, cells := 3, slots := 18, locals := 146 } : Room) (rc_P Y sh rf σ sz [.ref a0, .int u1]) (va_Qi (fun (r' : Int32) (_ : Unit) => k = 0 ∧ r' = r) (fun _ t => rc_W Y sh rf σ' t.heap) (rc_A sh sz)) (rc_XC Y sh rf σ' k sz) 3 18 (rc_A sh sz) := by
  refine vx_ofW (cc := cX8_hidden) (maxL := 4) (ret := (some .int)) (by decide +kernel) rfl ?_
  intro p e s m args below meth c s₁ B hml hout hv
  obtain ⟨rfl, hsz, hW, hK, hE⟩ := hv
  have hx := B.exec
  have hb := B.bytes
  have hr := B.returns
  have hts : ∀ w ∈ rc_big, w.before _ s = true := fun w h => atoms_spec (ws := Cond.code yX8_hidden cX8_hidden 4 (some .int) :: rc_big) B.pre w (List.mem_cons_of_mem _ h)
  have hown : s.vm.findClass RX8 = some m.cls := findClass_of_methodNamed B.named
  have hlocks := B.notSynchronized
  clear B
  subst hsz
  have hS : va_S (rc_A sh s.heap.size) s.heap s.heap [] := va_S.rf
  have hl := lv_entry ([.ref a0, .int u1]) (n := 4) (Nat.le_of_ble_eq_true rfl)
  rw [lg_entry_eq]
  generalize (lg_sl ([.ref a0, .int u1]) ++ List.replicate (4 - (lg_sl ([.ref a0, .int u1])).length) Slot.unset).toArray = ls at hl ⊢
  have hl : lv_has ls 4 [(0, .ref a0), (1, .int u1)] := hl
  have lp_15 : ∀ (r2 : Nat) (hr2 : sh r2 = 1) (K : Int32 → rc_S → Option (Nat × Int32 × rc_S)) (hKK : ∀ (v3 : Int32) (σ : rc_S) (H : Heap) (locs : List Loc) (ls : Array Slot), K v3 σ = some (k, r, σ') → rc_W Y sh rf σ H → va_S (rc_A sh s.heap.size) s.heap H locs → lv_has ls 4 [] → W p l e (headSpec (Cond.code yX8_hidden cX8_hidden 4 (some .int) :: rc_big) ({ frames := 9, cells := 3, slots := 18, locals := 146 } : Room)).room s m (([.ref a0, .int u1] : List Value).toArray) below meth c H locs (0 + 3 + 0) (0 + 18 + 0) (vx_MQ below (va_Qi (fun (r' : Int32) (_ : Unit) => k = 0 ∧ r' = r) (fun _ t => rc_W Y sh rf σ' t.heap) (rc_A sh s.heap.size)) (rc_XC Y sh rf σ' k s.heap.size) ([.ref a0, .int u1] : List Value).toArray s 3 18 (rc_A sh s.heap.size)) (F0 m 45 ls [])) (n : Nat) (v3 : Int32) (σ : rc_S) (H : Heap) (locs : List Loc) (ls : Array Slot), f_X8_hidden_15 rf a0 r2 K n v3 σ = some (k, r, σ') → rc_W Y sh rf σ H → va_S (rc_A sh s.heap.size) s.heap H locs → lv_has ls 4 [(0, .ref a0), (2, .ref r2), (3, .int v3)] → W p l e (headSpec (Cond.code yX8_hidden cX8_hidden 4 (some .int) :: rc_big) ({ frames := 9, cells := 3, slots := 18, locals := 146 } : Room)).room s m (([.ref a0, .int u1] : List Value).toArray) below meth c H locs (0 + 3 + 0) (0 + 18 + 0) (vx_MQ below (va_Qi (fun (r' : Int32) (_ : Unit) => k = 0 ∧ r' = r) (fun _ t => rc_W Y sh rf σ' t.heap) (rc_A sh s.heap.size)) (rc_XC Y sh rf σ' k s.heap.size) ([.ref a0, .int u1] : List Value).toArray s 3 18 (rc_A sh s.heap.size)) (F0 m 15 ls []) := by
    intro r2 hr2 K hKK n
    induction n with
    | zero =>
      intro v3 σ H locs ls hm
      rw [f_X8_hidden_15] at hm
      cases hm
    | succ n ih =>
      intro v3 σ H locs ls hm hW hS hl
      rw [f_X8_hidden_15] at hm
      refine lv_iload_n hx hb dX8_hidden_15 rfl (lv_at hl 2 rfl) ?_
      refine lv_if_le (tgt := 45) hx hb dX8_hidden_16 (by decide) (fun c_7 => ?_) (fun c_7 => ?_)
      · replace hm := rc_t hm c_7
        exact hKK v3 σ _ _ _ hm hW hS (lv_sub hl [] rfl)
      · replace hm := rc_f hm c_7
        refine lv_aload_n hx hb dX8_hidden_19 rfl (lv_at hl 0 rfl) ?_
        refine rg_9_1 hx hb hts hown hK hW h0 tw_2_83 dX8_hidden_20 ?_
        refine rg_2_3 hx hb hts hown hK hW (rc_t_9_1 hT h0) tw_1_151 dX8_hidden_23 ?_
        refine lv_aload_n hx hb dX8_hidden_26 rfl (lv_at hl 1 rfl) ?_
        refine lv_iload_n hx hb dX8_hidden_27 rfl (lv_at hl 2 rfl) ?_
        obtain ⟨w_3, σ_3, hc_3, hm0⟩ := rc_bd_inv hm
        clear hm
        refine rc_ci hS (va_runV (As := [.int v3]) (rest := [.ref (rf (rf a0 1) 3)]) ⟨hx, hb, hml, hown, hts⟩ (k_X0_hailPartWith l hT r2 v3 hr2 H.size _ _ _ hc_3) (cwV 1 hts (rc_gV tw_6_174 tw_3_42 tw_3_43 tw_1_5 tw_3_44) rfl rfl rfl (by decide +kernel) ⟨Nat.le_of_ble_eq_true rfl, Nat.le_of_ble_eq_true rfl⟩) (rc_preV hT hW hK hE hS hr2 (by decide) rfl (q := (RX0, TX0, 6)) rfl [.int v3]) rfl rfl hl.1 rfl (lv_room (Nat.le_of_ble_eq_true rfl)) dX8_hidden_28 ⟨Nat.le_of_ble_eq_true rfl, Nat.le_of_ble_eq_true rfl⟩) (fun H locs hW hS => ?_)
        have hm := hm0
        clear hm0 hc_3
        obtain ⟨w_4, σ_4, hc_4, hm0⟩ := rc_bd_inv hm
        clear hm
        refine rc_ci hS (va_runV (As := [.int w_3]) (rest := []) ⟨hx, hb, hml, hown, hts⟩ (k_X3_thoseWhoNotice l hT (rf (rf a0 1) 3) w_3 (rc_t_2_3 hT (rc_t_9_1 hT h0)) H.size _ _ _ hc_4) (cwV 1 hts (rc_gV tw_3_53 tw_3_54 tw_3_55 tw_1_4 tw_3_56) rfl rfl rfl (by decide +kernel) ⟨Nat.le_of_ble_eq_true rfl, Nat.le_of_ble_eq_true rfl⟩) (rc_preV hT hW hK hE hS (rc_t_2_3 hT (rc_t_9_1 hT h0)) (by decide) rfl (q := (RX3, TX3, 3)) rfl [.int w_3]) rfl rfl hl.1 rfl (lv_room (Nat.le_of_ble_eq_true rfl)) dX8_hidden_31 ⟨Nat.le_of_ble_eq_true rfl, Nat.le_of_ble_eq_true rfl⟩) (fun H locs hW hS => ?_)
        have hm := hm0
        clear hm0 hc_4
        refine lv_if_ne (tgt := 39) hx hb dX8_hidden_34 (by decide) (fun c_6 => ?_) (fun c_6 => ?_)
        · replace hm := rc_f hm c_6
          obtain ⟨v3_5, ev⟩ : ∃ y : Int32, y = (v3 + (-1)) := ⟨_, rfl⟩
          replace hm := rc_lt_at hm ev
          refine lv_iinc (v := v3_5) (lv' := [(3, .int v3_5), (0, .ref a0), (2, .ref r2)]) hx hb dX8_hidden_39 hl (k := 2) rfl (by rw [ev]; rfl) (by decide) rfl (fun ls hl => ?_)
          clear ev
          refine lv_goto (tgt := 15) hx hb dX8_hidden_42 (by decide) ?_
          exact ih v3_5 σ_4 _ _ _ hm hW hS (lv_sub hl [1, 2, 0] rfl)
        · replace hm := rc_t hm c_6
          refine lv_iload_n hx hb dX8_hidden_37 rfl (lv_at hl 2 rfl) ?_
          exact rc_xiret hx hb hr hlocks hW hS (Nat.le_of_ble_eq_true rfl) (Nat.le_of_ble_eq_true rfl) hm dX8_hidden_38
  unfold f_X8_hidden at hm
  refine lv_aload_n hx hb dX8_hidden_0 rfl (lv_at hl 0 rfl) ?_
  refine lv_iload_n hx hb dX8_hidden_1 rfl (lv_at hl 1 rfl) ?_
  obtain ⟨k_1, w_1, σ_1, hc_1, hm0, hk_1⟩ := rc_bx_inv hm
  clear hm
  refine rc_xcr hout hlocks hS hk_1 (Nat.le_of_ble_eq_true rfl) (Nat.le_of_ble_eq_true rfl) (vx_runV (As := [.int u1]) (rest := []) ⟨hx, hb, hml, hown, hts⟩ (k_X8_unnoticed l hl9 hT a0 u1 h0 s.heap.size _ _ _ _ hc_1) (cwV 1 hts (rc_gV tw_6_165 tw_6_167 tw_p_15 tw_1_1 tw_6_168) rfl rfl rfl (by decide +kernel) ⟨Nat.le_of_ble_eq_true rfl, Nat.le_of_ble_eq_true rfl⟩) (rc_preV hT hW hK hE hS h0 (by decide) rfl (q := (RX8, TX8, 9)) rfl [.int u1]) rfl rfl hl.1 rfl (lv_room (Nat.le_of_ble_eq_true rfl)) dX8_hidden_2 ⟨Nat.le_of_ble_eq_true rfl, Nat.le_of_ble_eq_true rfl⟩) (fun H locs h0_1 hr_1 hW hS => ?_)
  have hm := hm0 h0_1
  clear hm0 hc_1 hk_1
  refine lv_astore_n (lv' := [(2, .ref w_1), (0, .ref a0), (1, .int u1)]) hx hb dX8_hidden_5 rfl hl (by decide) rfl (fun ls hl => ?_)
  refine lv_aload_n hx hb dX8_hidden_6 rfl (lv_at hl 1 rfl) ?_
  refine rg_9_1 hx hb hts hown hK hW h0 tw_2_83 dX8_hidden_7 ?_
  refine lv_aload_n hx hb dX8_hidden_10 rfl (lv_at hl 0 rfl) ?_
  obtain ⟨w_2, σ_2, hc_2, hm0⟩ := rc_bd_inv hm
  clear hm
  refine rc_ci hS (va_runV (As := [.ref w_1]) (rest := []) ⟨hx, hb, hml, hown, hts⟩ (k_X1_mostHailFor l hT (rf a0 1) w_1 (rc_t_9_1 hT h0) hr_1 H.size _ _ _ hc_2) (cwV 1 hts (rc_gV tw_6_169 tw_6_170 tw_6_171 tw_1_3 tw_6_172) rfl rfl rfl (by decide +kernel) ⟨Nat.le_of_ble_eq_true rfl, Nat.le_of_ble_eq_true rfl⟩) (rc_preV hT hW hK hE hS (rc_t_9_1 hT h0) (by decide) rfl (q := (RX1, TX1, 14)) rfl [.ref w_1]) rfl rfl hl.1 rfl (lv_room (Nat.le_of_ble_eq_true rfl)) dX8_hidden_11 ⟨Nat.le_of_ble_eq_true rfl, Nat.le_of_ble_eq_true rfl⟩) (fun H locs hW hS => ?_)
  have hm := hm0
  clear hm0 hc_2
  refine lv_istore_n (lv' := [(3, .int w_2), (2, .ref w_1), (0, .ref a0), (1, .int u1)]) hx hb dX8_hidden_14 rfl hl (by decide) rfl (fun ls hl => ?_)
  refine lp_15 w_1 hr_1 _ (fun v3_8 σ_9 H locs ls hm hW hS hl => ?_) rc_fu w_2 σ_2 _ _ _ hm hW hS (lv_sub hl [2, 1, 0] rfl)
  refine lv_iconst (v := 0) hx hb dX8_hidden_45 (by decide) ?_
  exact rc_xiret hx hb hr hlocks hW hS (Nat.le_of_ble_eq_true rfl) (Nat.le_of_ble_eq_true rfl) hm dX8_hidden_46
set_option maxHeartbeats 4000000 in
set_option maxRecDepth 100000 in
theorem k_X8_hiddenAgain (l : Launch) (hl9 : l.stackTraces = false) {Y : rc_Y} {sh : Nat → Nat} {rf : rc_F} (hT : rc_T Y sh rf) (a0 : Nat) (u1 : Int32) (h0 : sh a0 = 9) (sz : Nat) (σ σ' : rc_S) (k : Nat) (r : Int32) (hm : f_X8_hiddenAgain rf a0 u1 σ = some (k, r, σ')) : vx_Met l yX8_hiddenAgain (Cond.code yX8_hiddenAgain cX8_hiddenAgain 5 (some .int) :: rc_big) ({ frames := 9, cells := 3, slots := 18, locals := 146 } : Room) (rc_P Y sh rf σ sz [.ref a0, .int u1]) (va_Qi (fun (r' : Int32) (_ : Unit) => k = 0 ∧ r' = r) (fun _ t => rc_W Y sh rf σ' t.heap) (rc_A sh sz)) (rc_XC Y sh rf σ' k sz) 3 18 (rc_A sh sz) := by
  refine vx_ofW (cc := cX8_hiddenAgain) (maxL := 5) (ret := (some .int)) (by decide +kernel) rfl ?_
  intro p e s m args below meth c s₁ B hml hout hv
  obtain ⟨rfl, hsz, hW, hK, hE⟩ := hv
  have hx := B.exec
  have hb := B.bytes
  have hr := B.returns
  have hts : ∀ w ∈ rc_big, w.before _ s = true := fun w h => atoms_spec (ws := Cond.code yX8_hiddenAgain cX8_hiddenAgain 5 (some .int) :: rc_big) B.pre w (List.mem_cons_of_mem _ h)
  have hown : s.vm.findClass RX8 = some m.cls := findClass_of_methodNamed B.named
  have hlocks := B.notSynchronized
  clear B
  subst hsz
  have hS : va_S (rc_A sh s.heap.size) s.heap s.heap [] := va_S.rf
  have hl := lv_entry ([.ref a0, .int u1]) (n := 5) (Nat.le_of_ble_eq_true rfl)
  rw [lg_entry_eq]
  generalize (lg_sl ([.ref a0, .int u1]) ++ List.replicate (5 - (lg_sl ([.ref a0, .int u1])).length) Slot.unset).toArray = ls at hl ⊢
  have hl : lv_has ls 5 [(0, .ref a0), (1, .int u1)] := hl
  have lp_18 : ∀ (r2 : Nat) (v3 : Int32) (hr2 : sh r2 = 1) (K : Int32 → rc_S → Option (Nat × Int32 × rc_S)) (hKK : ∀ (v4 : Int32) (σ : rc_S) (H : Heap) (locs : List Loc) (ls : Array Slot), K v4 σ = some (k, r, σ') → rc_W Y sh rf σ H → va_S (rc_A sh s.heap.size) s.heap H locs → lv_has ls 5 [(4, .int v4)] → W p l e (headSpec (Cond.code yX8_hiddenAgain cX8_hiddenAgain 5 (some .int) :: rc_big) ({ frames := 9, cells := 3, slots := 18, locals := 146 } : Room)).room s m (([.ref a0, .int u1] : List Value).toArray) below meth c H locs (0 + 3 + 0) (0 + 18 + 0) (vx_MQ below (va_Qi (fun (r' : Int32) (_ : Unit) => k = 0 ∧ r' = r) (fun _ t => rc_W Y sh rf σ' t.heap) (rc_A sh s.heap.size)) (rc_XC Y sh rf σ' k s.heap.size) ([.ref a0, .int u1] : List Value).toArray s 3 18 (rc_A sh s.heap.size)) (F0 m 51 ls [])) (n : Nat) (v4 : Int32) (σ : rc_S) (H : Heap) (locs : List Loc) (ls : Array Slot), f_X8_hiddenAgain_18 rf a0 r2 v3 K n v4 σ = some (k, r, σ') → rc_W Y sh rf σ H → va_S (rc_A sh s.heap.size) s.heap H locs → lv_has ls 5 [(0, .ref a0), (2, .ref r2), (3, .int v3), (4, .int v4)] → W p l e (headSpec (Cond.code yX8_hiddenAgain cX8_hiddenAgain 5 (some .int) :: rc_big) ({ frames := 9, cells := 3, slots := 18, locals := 146 } : Room)).room s m (([.ref a0, .int u1] : List Value).toArray) below meth c H locs (0 + 3 + 0) (0 + 18 + 0) (vx_MQ below (va_Qi (fun (r' : Int32) (_ : Unit) => k = 0 ∧ r' = r) (fun _ t => rc_W Y sh rf σ' t.heap) (rc_A sh s.heap.size)) (rc_XC Y sh rf σ' k s.heap.size) ([.ref a0, .int u1] : List Value).toArray s 3 18 (rc_A sh s.heap.size)) (F0 m 18 ls []) := by
    intro r2 v3 hr2 K hKK n
    induction n with
    | zero =>
      intro v4 σ H locs ls hm
      rw [f_X8_hiddenAgain_18] at hm
      cases hm
    | succ n ih =>
      intro v4 σ H locs ls hm hW hS hl
      rw [f_X8_hiddenAgain_18] at hm
      refine lv_iload hx hb dX8_hiddenAgain_18 (lv_at hl 3 rfl) ?_
      refine lv_iload_n hx hb dX8_hiddenAgain_20 rfl (lv_at hl 2 rfl) ?_
      refine lv_icmp_ge (tgt := 51) hx hb dX8_hiddenAgain_21 (by decide) (fun c_7 => ?_) (fun c_7 => ?_)
      · replace hm := rc_t hm c_7
        exact hKK v4 σ _ _ _ hm hW hS (lv_sub hl [3] rfl)
      · replace hm := rc_f hm c_7
        refine lv_aload_n hx hb dX8_hiddenAgain_24 rfl (lv_at hl 0 rfl) ?_
        refine rg_9_1 hx hb hts hown hK hW h0 tw_2_83 dX8_hiddenAgain_25 ?_
        refine rg_2_3 hx hb hts hown hK hW (rc_t_9_1 hT h0) tw_1_151 dX8_hiddenAgain_28 ?_
        refine lv_aload_n hx hb dX8_hiddenAgain_31 rfl (lv_at hl 1 rfl) ?_
        refine lv_iload hx hb dX8_hiddenAgain_32 (lv_at hl 3 rfl) ?_
        refine lv_iconst (v := 1) hx hb dX8_hiddenAgain_34 (by decide) ?_
        refine lv_iadd hx hb dX8_hiddenAgain_35 ?_
        obtain ⟨w_3, σ_3, hc_3, hm0⟩ := rc_bd_inv hm
        clear hm
        refine rc_ci hS (va_runV (As := [.int (v4 + (1 : Int32))]) (rest := [.ref (rf (rf a0 1) 3)]) ⟨hx, hb, hml, hown, hts⟩ (k_X0_hailPartWith l hT r2 (v4 + (1 : Int32)) hr2 H.size _ _ _ hc_3) (cwV 1 hts (rc_gV tw_6_174 tw_3_42 tw_3_43 tw_1_5 tw_3_44) rfl rfl rfl (by decide +kernel) ⟨Nat.le_of_ble_eq_true rfl, Nat.le_of_ble_eq_true rfl⟩) (rc_preV hT hW hK hE hS hr2 (by decide) rfl (q := (RX0, TX0, 6)) rfl [.int (v4 + (1 : Int32))]) rfl rfl hl.1 rfl (lv_room (Nat.le_of_ble_eq_true rfl)) dX8_hiddenAgain_36 ⟨Nat.le_of_ble_eq_true rfl, Nat.le_of_ble_eq_true rfl⟩) (fun H locs hW hS => ?_)
        have hm := hm0
        clear hm0 hc_3
        obtain ⟨w_4, σ_4, hc_4, hm0⟩ := rc_bd_inv hm
        clear hm
        refine rc_ci hS (va_runV (As := [.int w_3]) (rest := []) ⟨hx, hb, hml, hown, hts⟩ (k_X3_doesBestNotice l hT (rf (rf a0 1) 3) w_3 (rc_t_2_3 hT (rc_t_9_1 hT h0)) H.size _ _ _ hc_4) (cwV 1 hts (rc_gV tw_6_207 tw_6_208 tw_6_209 tw_1_4 tw_6_210) rfl rfl rfl (by decide +kernel) ⟨Nat.le_of_ble_eq_true rfl, Nat.le_of_ble_eq_true rfl⟩) (rc_preV hT hW hK hE hS (rc_t_2_3 hT (rc_t_9_1 hT h0)) (by decide) rfl (q := (RX3, TX3, 3)) rfl [.int w_3]) rfl rfl hl.1 rfl (lv_room (Nat.le_of_ble_eq_true rfl)) dX8_hiddenAgain_39 ⟨Nat.le_of_ble_eq_true rfl, Nat.le_of_ble_eq_true rfl⟩) (fun H locs hW hS => ?_)
        have hm := hm0
        clear hm0 hc_4
        refine lv_if_ne (tgt := 51) hx hb dX8_hiddenAgain_42 (by decide) (fun c_6 => ?_) (fun c_6 => ?_)
        · replace hm := rc_f hm c_6
          exact hKK v4 σ_4 _ _ _ hm hW hS (lv_sub hl [3] rfl)
        · replace hm := rc_t hm c_6
          obtain ⟨v4_5, ev⟩ : ∃ y : Int32, y = (v4 + 1) := ⟨_, rfl⟩
          replace hm := rc_lt_at hm ev
          refine lv_iinc (v := v4_5) (lv' := [(4, .int v4_5), (0, .ref a0), (2, .ref r2), (3, .int v3)]) hx hb dX8_hiddenAgain_45 hl (k := 3) rfl (by rw [ev]; rfl) (by decide) rfl (fun ls hl => ?_)
          clear ev
          refine lv_goto (tgt := 18) hx hb dX8_hiddenAgain_48 (by decide) ?_
          exact ih v4_5 σ_4 _ _ _ hm hW hS (lv_sub hl [1, 2, 3, 0] rfl)
  unfold f_X8_hiddenAgain at hm
  refine lv_aload_n hx hb dX8_hiddenAgain_0 rfl (lv_at hl 0 rfl) ?_
  refine lv_iload_n hx hb dX8_hiddenAgain_1 rfl (lv_at hl 1 rfl) ?_
  obtain ⟨k_1, w_1, σ_1, hc_1, hm0, hk_1⟩ := rc_bx_inv hm
  clear hm
  refine rc_xcr hout hlocks hS hk_1 (Nat.le_of_ble_eq_true rfl) (Nat.le_of_ble_eq_true rfl) (vx_runV (As := [.int u1]) (rest := []) ⟨hx, hb, hml, hown, hts⟩ (k_X8_unnoticed l hl9 hT a0 u1 h0 s.heap.size _ _ _ _ hc_1) (cwV 1 hts (rc_gV tw_6_165 tw_6_167 tw_p_15 tw_1_1 tw_6_168) rfl rfl rfl (by decide +kernel) ⟨Nat.le_of_ble_eq_true rfl, Nat.le_of_ble_eq_true rfl⟩) (rc_preV hT hW hK hE hS h0 (by decide) rfl (q := (RX8, TX8, 9)) rfl [.int u1]) rfl rfl hl.1 rfl (lv_room (Nat.le_of_ble_eq_true rfl)) dX8_hiddenAgain_2 ⟨Nat.le_of_ble_eq_true rfl, Nat.le_of_ble_eq_true rfl⟩) (fun H locs h0_1 hr_1 hW hS => ?_)
  have hm := hm0 h0_1
  clear hm0 hc_1 hk_1
  refine lv_astore_n (lv' := [(2, .ref w_1), (0, .ref a0), (1, .int u1)]) hx hb dX8_hiddenAgain_5 rfl hl (by decide) rfl (fun ls hl => ?_)
  refine lv_aload_n hx hb dX8_hiddenAgain_6 rfl (lv_at hl 1 rfl) ?_
  refine rg_9_1 hx hb hts hown hK hW h0 tw_2_83 dX8_hiddenAgain_7 ?_
  refine lv_aload_n hx hb dX8_hiddenAgain_10 rfl (lv_at hl 0 rfl) ?_
  obtain ⟨w_2, σ_2, hc_2, hm0⟩ := rc_bd_inv hm
  clear hm
  refine rc_ci hS (va_runV (As := [.ref w_1]) (rest := []) ⟨hx, hb, hml, hown, hts⟩ (k_X1_mostHailFor l hT (rf a0 1) w_1 (rc_t_9_1 hT h0) hr_1 H.size _ _ _ hc_2) (cwV 1 hts (rc_gV tw_6_169 tw_6_170 tw_6_171 tw_1_3 tw_6_172) rfl rfl rfl (by decide +kernel) ⟨Nat.le_of_ble_eq_true rfl, Nat.le_of_ble_eq_true rfl⟩) (rc_preV hT hW hK hE hS (rc_t_9_1 hT h0) (by decide) rfl (q := (RX1, TX1, 14)) rfl [.ref w_1]) rfl rfl hl.1 rfl (lv_room (Nat.le_of_ble_eq_true rfl)) dX8_hiddenAgain_11 ⟨Nat.le_of_ble_eq_true rfl, Nat.le_of_ble_eq_true rfl⟩) (fun H locs hW hS => ?_)
  have hm := hm0
  clear hm0 hc_2
  refine lv_istore_n (lv' := [(3, .int w_2), (2, .ref w_1), (0, .ref a0), (1, .int u1)]) hx hb dX8_hiddenAgain_14 rfl hl (by decide) rfl (fun ls hl => ?_)
  refine lv_iconst (v := 0) hx hb dX8_hiddenAgain_15 (by decide) ?_
  refine lv_istore (lv' := [(4, .int (0 : Int32)), (3, .int w_2), (2, .ref w_1), (0, .ref a0), (1, .int u1)]) hx hb dX8_hiddenAgain_16 hl (by decide) rfl (fun ls hl => ?_)
  refine lp_18 w_1 w_2 hr_1 _ (fun v4_8 σ_9 H locs ls hm hW hS hl => ?_) rc_fu (0 : Int32) σ_2 _ _ _ hm hW hS (lv_sub hl [3, 2, 1, 0] rfl)
  refine lv_iload hx hb dX8_hiddenAgain_51 (lv_at hl 0 rfl) ?_
  exact rc_xiret hx hb hr hlocks hW hS (Nat.le_of_ble_eq_true rfl) (Nat.le_of_ble_eq_true rfl) hm dX8_hiddenAgain_53
set_option maxHeartbeats 4000000 in
set_option maxRecDepth 100000 in
theorem k_X8_ranked (l : Launch) (hl9 : l.stackTraces = false) {Y : rc_Y} {sh : Nat → Nat} {rf : rc_F} (hT : rc_T Y sh rf) (a0 : Nat) (u1 : Int32) (u2 : Int32) (h0 : sh a0 = 9) (sz : Nat) (σ σ' : rc_S) (k : Nat) (r : Int32) (hm : f_X8_ranked rf a0 u1 u2 σ = some (k, r, σ')) : vx_Met l yX8_ranked (Cond.code yX8_ranked cX8_ranked 4 (some .int) :: rc_big) ({ frames := 7, cells := 1, slots := 6, locals := 154 } : Room) (rc_P Y sh rf σ sz [.ref a0, .int u1, .int u2]) (va_Qi (fun (r' : Int32) (_ : Unit) => k = 0 ∧ r' = r) (fun _ t => rc_W Y sh rf σ' t.heap) (rc_A sh sz)) (rc_XC Y sh rf σ' k sz) 1 6 (rc_A sh sz) := by
  refine vx_ofW (cc := cX8_ranked) (maxL := 4) (ret := (some .int)) (by decide +kernel) rfl ?_
  intro p e s m args below meth c s₁ B hml hout hv
  obtain ⟨rfl, hsz, hW, hK, hE⟩ := hv
  have hx := B.exec
  have hb := B.bytes
  have hr := B.returns
  have hts : ∀ w ∈ rc_big, w.before _ s = true := fun w h => atoms_spec (ws := Cond.code yX8_ranked cX8_ranked 4 (some .int) :: rc_big) B.pre w (List.mem_cons_of_mem _ h)
  have hown : s.vm.findClass RX8 = some m.cls := findClass_of_methodNamed B.named
  have hlocks := B.notSynchronized
  clear B
  subst hsz
  have hS : va_S (rc_A sh s.heap.size) s.heap s.heap [] := va_S.rf
  have hl := lv_entry ([.ref a0, .int u1, .int u2]) (n := 4) (Nat.le_of_ble_eq_true rfl)
  rw [lg_entry_eq]
  generalize (lg_sl ([.ref a0, .int u1, .int u2]) ++ List.replicate (4 - (lg_sl ([.ref a0, .int u1, .int u2])).length) Slot.unset).toArray = ls at hl ⊢
  have hl : lv_has ls 4 [(0, .ref a0), (1, .int u1), (2, .int u2)] := hl
  have lp_19 : ∀ (v1 : Int32) (v2 : Int32) (K : Int32 → rc_S → Option (Nat × Int32 × rc_S)) (hKK : ∀ (v3 : Int32) (σ : rc_S) (H : Heap) (locs : List Loc) (ls : Array Slot), K v3 σ = some (k, r, σ') → rc_W Y sh rf σ H → va_S (rc_A sh s.heap.size) s.heap H locs → lv_has ls 4 [] → W p l e (headSpec (Cond.code yX8_ranked cX8_ranked 4 (some .int) :: rc_big) ({ frames := 7, cells := 1, slots := 6, locals := 154 } : Room)).room s m (([.ref a0, .int u1, .int u2] : List Value).toArray) below meth c H locs (0 + 0) (0 + 0) (vx_MQ below (va_Qi (fun (r' : Int32) (_ : Unit) => k = 0 ∧ r' = r) (fun _ t => rc_W Y sh rf σ' t.heap) (rc_A sh s.heap.size)) (rc_XC Y sh rf σ' k s.heap.size) ([.ref a0, .int u1, .int u2] : List Value).toArray s 1 6 (rc_A sh s.heap.size)) (F0 m 51 ls [])) (n : Nat) (v3 : Int32) (σ : rc_S) (H : Heap) (locs : List Loc) (ls : Array Slot), f_X8_ranked_19 rf a0 v1 v2 K n v3 σ = some (k, r, σ') → rc_W Y sh rf σ H → va_S (rc_A sh s.heap.size) s.heap H locs → lv_has ls 4 [(0, .ref a0), (1, .int v1), (2, .int v2), (3, .int v3)] → W p l e (headSpec (Cond.code yX8_ranked cX8_ranked 4 (some .int) :: rc_big) ({ frames := 7, cells := 1, slots := 6, locals := 154 } : Room)).room s m (([.ref a0, .int u1, .int u2] : List Value).toArray) below meth c H locs (0 + 0) (0 + 0) (vx_MQ below (va_Qi (fun (r' : Int32) (_ : Unit) => k = 0 ∧ r' = r) (fun _ t => rc_W Y sh rf σ' t.heap) (rc_A sh s.heap.size)) (rc_XC Y sh rf σ' k s.heap.size) ([.ref a0, .int u1, .int u2] : List Value).toArray s 1 6 (rc_A sh s.heap.size)) (F0 m 19 ls []) := by
    intro v1 v2 K hKK n
    induction n with
    | zero =>
      intro v3 σ H locs ls hm
      rw [f_X8_ranked_19] at hm
      cases hm
    | succ n ih =>
      intro v3 σ H locs ls hm hW hS hl
      rw [f_X8_ranked_19] at hm
      refine lv_iload_n hx hb dX8_ranked_19 rfl (lv_at hl 3 rfl) ?_
      refine lv_aload_n hx hb dX8_ranked_20 rfl (lv_at hl 0 rfl) ?_
      refine rg_9_1 hx hb hts hown hK hW h0 tw_2_83 dX8_ranked_21 ?_
      refine rg_2_2 hx hb hts hown hK hW (rc_t_9_1 hT h0) tw_1_148 dX8_ranked_24 ?_
      refine lv_icmp_ge (tgt := 51) hx hb dX8_ranked_27 (by decide) (fun c_5 => ?_) (fun c_5 => ?_)
      · replace hm := rc_t hm c_5
        exact hKK v3 σ _ _ _ hm hW hS (lv_sub hl [] rfl)
      · replace hm := rc_f hm c_5
        refine lv_aload_n hx hb dX8_ranked_30 rfl (lv_at hl 0 rfl) ?_
        refine rg_9_1 hx hb hts hown hK hW h0 tw_2_83 dX8_ranked_31 ?_
        refine lv_iload_n hx hb dX8_ranked_34 rfl (lv_at hl 3 rfl) ?_
        refine lv_iload_n hx hb dX8_ranked_35 rfl (lv_at hl 1 rfl) ?_
        obtain ⟨w_2, σ_2, hc_2, hm0⟩ := rc_bd_inv hm
        clear hm
        refine rc_ci hS (va_runV (As := [.int v3, .int v1]) (rest := []) ⟨hx, hb, hml, hown, hts⟩ (k_X1_placeOf l hT (rf a0 1) v3 v1 (rc_t_9_1 hT h0) H.size _ _ _ hc_2) (cwV 2 hts (rc_gV tw_7_12 tw_7_13 tw_7_14 tw_1_3 tw_7_15) rfl rfl rfl (by decide +kernel) ⟨Nat.le_of_ble_eq_true rfl, Nat.le_of_ble_eq_true rfl⟩) (rc_preV hT hW hK hE hS (rc_t_9_1 hT h0) (by decide) rfl (q := (RX1, TX1, 14)) rfl [.int v3, .int v1]) rfl rfl hl.1 rfl (lv_room (Nat.le_of_ble_eq_true rfl)) dX8_ranked_36 ⟨Nat.le_of_ble_eq_true rfl, Nat.le_of_ble_eq_true rfl⟩) (fun H locs hW hS => ?_)
        have hm := hm0
        clear hm0 hc_2
        refine lv_iload_n hx hb dX8_ranked_39 rfl (lv_at hl 2 rfl) ?_
        refine lv_icmp_ne (tgt := 45) hx hb dX8_ranked_40 (by decide) (fun c_4 => ?_) (fun c_4 => ?_)
        · replace hm := rc_f hm c_4
          obtain ⟨v3_3, ev⟩ : ∃ y : Int32, y = (v3 + 1) := ⟨_, rfl⟩
          replace hm := rc_lt_at hm ev
          refine lv_iinc (v := v3_3) (lv' := [(3, .int v3_3), (0, .ref a0), (1, .int v1), (2, .int v2)]) hx hb dX8_ranked_45 hl (k := 3) rfl (by rw [ev]; rfl) (by decide) rfl (fun ls hl => ?_)
          clear ev
          refine lv_goto (tgt := 19) hx hb dX8_ranked_48 (by decide) ?_
          exact ih v3_3 σ_2 _ _ _ hm hW hS (lv_sub hl [1, 2, 3, 0] rfl)
        · replace hm := rc_t hm c_4
          refine lv_iload_n hx hb dX8_ranked_43 rfl (lv_at hl 3 rfl) ?_
          exact rc_xiret hx hb hr hlocks hW hS (Nat.le_of_ble_eq_true rfl) (Nat.le_of_ble_eq_true rfl) hm dX8_ranked_44
  unfold f_X8_ranked at hm
  refine lv_iload_n hx hb dX8_ranked_0 rfl (lv_at hl 1 rfl) ?_
  refine lv_iconst (v := 0) hx hb dX8_ranked_1 (by decide) ?_
  refine lv_iconst (v := 3) hx hb dX8_ranked_2 (by decide) ?_
  obtain ⟨w_1, σ_1, hc_1, hm0⟩ := rc_bd_inv hm
  clear hm
  refine rc_ci hS (va_runS (As := [.int u1, .int (0 : Int32), .int (3 : Int32)]) (rest := []) ⟨hx, hb, hml, hown, hts⟩ (k_X8_isOutside l hT u1 (0 : Int32) (3 : Int32)  s.heap.size _ _ _ hc_1) (va_cwS 3 hts (rc_gS tw_3_76 tw_3_77 tw_1_1 tw_3_78) rfl rfl rfl (by decide +kernel) ⟨Nat.le_of_ble_eq_true rfl, Nat.le_of_ble_eq_true rfl⟩) (rc_preS hT hW hK hE hS [.int u1, .int (0 : Int32), .int (3 : Int32)]) rfl rfl hl.1 rfl (lv_room (Nat.le_of_ble_eq_true rfl)) dX8_ranked_3 ⟨Nat.le_of_ble_eq_true rfl, Nat.le_of_ble_eq_true rfl⟩) (fun H locs hW hS => ?_)
  have hm := hm0
  clear hm0 hc_1
  refine lv_if_eq (tgt := 17) hx hb dX8_ranked_6 (by decide) (fun c_8 => ?_) (fun c_8 => ?_)
  · replace hm := rc_t hm c_8
    refine lv_iconst (v := 0) hx hb dX8_ranked_17 (by decide) ?_
    refine lv_istore_n (lv' := [(3, .int (0 : Int32)), (0, .ref a0), (1, .int u1), (2, .int u2)]) hx hb dX8_ranked_18 rfl hl (by decide) rfl (fun ls hl => ?_)
    refine lp_19 u1 u2 _ (fun v3_6 σ_7 H locs ls hm hW hS hl => ?_) rc_fu (0 : Int32) σ_1 _ _ _ hm hW hS (lv_sub hl [1, 2, 3, 0] rfl)
    exact rc_throw (n := 4) hx hb hl9 hT hE hW hS hts hown rfl (by decide) (by decide) rc_hk_4 rc_hi_4 (rc_hat_4 hts hE) rc_hgd_4 (hl.1.trans hml.symm) dX8_ranked_51 dX8_ranked_54 dX8_ranked_55 dX8_ranked_58 hout ⟨Nat.le_of_ble_eq_true rfl, Nat.le_of_ble_eq_true rfl, Nat.le_of_ble_eq_true rfl, Nat.le_of_ble_eq_true rfl⟩ hlocks (Nat.le_of_ble_eq_true rfl) (Nat.le_of_ble_eq_true rfl) hm
  · replace hm := rc_f hm c_8
    exact rc_throw (n := 3) hx hb hl9 hT hE hW hS hts hown rfl (by decide) (by decide) rc_hk_3 rc_hi_3 (rc_hat_3 hts hE) rc_hgd_3 (hl.1.trans hml.symm) dX8_ranked_9 dX8_ranked_12 dX8_ranked_13 dX8_ranked_16 hout ⟨Nat.le_of_ble_eq_true rfl, Nat.le_of_ble_eq_true rfl, Nat.le_of_ble_eq_true rfl, Nat.le_of_ble_eq_true rfl⟩ hlocks (Nat.le_of_ble_eq_true rfl) (Nat.le_of_ble_eq_true rfl) hm
set_option maxHeartbeats 4000000 in
set_option maxRecDepth 100000 in
theorem k_X8_meanNote (l : Launch) (hl9 : l.stackTraces = false) {Y : rc_Y} {sh : Nat → Nat} {rf : rc_F} (hT : rc_T Y sh rf) (a0 : Nat) (h0 : sh a0 = 9) (sz : Nat) (σ σ' : rc_S) (k : Nat) (r : UInt64) (hm : f_X8_meanNote rf a0 σ = some (k, r, σ')) : vx_Met l yX8_meanNote (Cond.code yX8_meanNote cX8_meanNote 4 (some .double) :: rc_big) ({ frames := 6, cells := 1, slots := 6, locals := 105 } : Room) (rc_P Y sh rf σ sz [.ref a0]) (va_Qd (fun (r' : UInt64) (_ : Unit) => k = 0 ∧ r' = r) (fun _ t => rc_W Y sh rf σ' t.heap) (rc_A sh sz)) (rc_XC Y sh rf σ' k sz) 1 6 (rc_A sh sz) := by
  refine vx_ofW (cc := cX8_meanNote) (maxL := 4) (ret := (some .double)) (by decide +kernel) rfl ?_
  intro p e s m args below meth c s₁ B hml hout hv
  obtain ⟨rfl, hsz, hW, hK, hE⟩ := hv
  have hx := B.exec
  have hb := B.bytes
  have hr := B.returns
  have hts : ∀ w ∈ rc_big, w.before _ s = true := fun w h => atoms_spec (ws := Cond.code yX8_meanNote cX8_meanNote 4 (some .double) :: rc_big) B.pre w (List.mem_cons_of_mem _ h)
  have hown : s.vm.findClass RX8 = some m.cls := findClass_of_methodNamed B.named
  have hlocks := B.notSynchronized
  clear B
  subst hsz
  have hS : va_S (rc_A sh s.heap.size) s.heap s.heap [] := va_S.rf
  have hl := lv_entry ([.ref a0]) (n := 4) (Nat.le_of_ble_eq_true rfl)
  rw [lg_entry_eq]
  generalize (lg_sl ([.ref a0]) ++ List.replicate (4 - (lg_sl ([.ref a0])).length) Slot.unset).toArray = ls at hl ⊢
  have hl : lv_has ls 4 [(0, .ref a0)] := hl
  have lp_6 : ∀ (K : Int32 → Int32 → Int32 → rc_S → Option (Nat × UInt64 × rc_S)) (hKK : ∀ (v1 v2 v3 : Int32) (σ : rc_S) (H : Heap) (locs : List Loc) (ls : Array Slot), K v1 v2 v3 σ = some (k, r, σ') → rc_W Y sh rf σ H → va_S (rc_A sh s.heap.size) s.heap H locs → lv_has ls 4 [(1, .int v1), (2, .int v2)] → W p l e (headSpec (Cond.code yX8_meanNote cX8_meanNote 4 (some .double) :: rc_big) ({ frames := 6, cells := 1, slots := 6, locals := 105 } : Room)).room s m (([.ref a0] : List Value).toArray) below meth c H locs 0 0 (vx_MQ below (va_Qd (fun (r' : UInt64) (_ : Unit) => k = 0 ∧ r' = r) (fun _ t => rc_W Y sh rf σ' t.heap) (rc_A sh s.heap.size)) (rc_XC Y sh rf σ' k s.heap.size) ([.ref a0] : List Value).toArray s 1 6 (rc_A sh s.heap.size)) (F0 m 65 ls [])) (n : Nat) (v1 v2 v3 : Int32) (σ : rc_S) (H : Heap) (locs : List Loc) (ls : Array Slot), f_X8_meanNote_6 rf a0 K n v1 v2 v3 σ = some (k, r, σ') → rc_W Y sh rf σ H → va_S (rc_A sh s.heap.size) s.heap H locs → lv_has ls 4 [(0, .ref a0), (1, .int v1), (2, .int v2), (3, .int v3)] → W p l e (headSpec (Cond.code yX8_meanNote cX8_meanNote 4 (some .double) :: rc_big) ({ frames := 6, cells := 1, slots := 6, locals := 105 } : Room)).room s m (([.ref a0] : List Value).toArray) below meth c H locs 0 0 (vx_MQ below (va_Qd (fun (r' : UInt64) (_ : Unit) => k = 0 ∧ r' = r) (fun _ t => rc_W Y sh rf σ' t.heap) (rc_A sh s.heap.size)) (rc_XC Y sh rf σ' k s.heap.size) ([.ref a0] : List Value).toArray s 1 6 (rc_A sh s.heap.size)) (F0 m 6 ls []) := by
    intro  K hKK n
    induction n with
    | zero =>
      intro v1 v2 v3 σ H locs ls hm
      rw [f_X8_meanNote_6] at hm
      cases hm
    | succ n ih =>
      intro v1 v2 v3 σ H locs ls hm hW hS hl
      rw [f_X8_meanNote_6] at hm
      refine lv_iload_n hx hb dX8_meanNote_6 rfl (lv_at hl 3 rfl) ?_
      refine lv_aload_n hx hb dX8_meanNote_7 rfl (lv_at hl 0 rfl) ?_
      refine rg_9_1 hx hb hts hown hK hW h0 tw_2_83 dX8_meanNote_8 ?_
      refine rg_2_2 hx hb hts hown hK hW (rc_t_9_1 hT h0) tw_1_148 dX8_meanNote_11 ?_
      refine lv_icmp_ge (tgt := 65) hx hb dX8_meanNote_14 (by decide) (fun c_11 => ?_) (fun c_11 => ?_)
      · replace hm := rc_t hm c_11
        exact hKK v1 v2 v3 σ _ _ _ hm hW hS (lv_sub hl [1, 2] rfl)
      · replace hm := rc_f hm c_11
        refine lv_iload_n hx hb dX8_meanNote_17 rfl (lv_at hl 1 rfl) ?_
        refine lv_aload_n hx hb dX8_meanNote_18 rfl (lv_at hl 0 rfl) ?_
        refine rg_9_1 hx hb hts hown hK hW h0 tw_2_83 dX8_meanNote_19 ?_
        refine lv_aload_n hx hb dX8_meanNote_22 rfl (lv_at hl 0 rfl) ?_
        refine rg_9_1 hx hb hts hown hK hW h0 tw_2_83 dX8_meanNote_23 ?_
        refine rg_2_1 hx hb hts hown hK hW (rc_t_9_1 hT h0) tw_1_145 dX8_meanNote_26 ?_
        refine lv_iload_n hx hb dX8_meanNote_29 rfl (lv_at hl 3 rfl) ?_
        have hi_1 := (rc_ix hm).1
        replace hm := (rc_ix hm).2
        refine rc_aald hx hb hK hW (rc_t_2_1 hT (rc_t_9_1 hT h0)) (by decide) rfl 4 rfl hi_1 dX8_meanNote_30 ?_
        obtain ⟨w_2, σ_2, hc_2, hm0⟩ := rc_bd_inv hm
        clear hm
        refine rc_ci hS (va_runV (As := [.ref (rf (rf (rf a0 1) 1) v3.toNatClampNeg)]) (rest := [.int v1]) ⟨hx, hb, hml, hown, hts⟩ (k_X1_noteOf l hT (rf a0 1) (rf (rf (rf a0 1) 1) v3.toNatClampNeg) (rc_t_9_1 hT h0) (rc_t_25 hT (rc_t_2_1 hT (rc_t_9_1 hT h0)) hi_1) H.size _ _ _ hc_2) (cwV 1 hts (rc_gV tw_3_17 tw_3_18 tw_3_19 tw_1_3 tw_3_20) rfl rfl rfl (by decide +kernel) ⟨Nat.le_of_ble_eq_true rfl, Nat.le_of_ble_eq_true rfl⟩) (rc_preV hT hW hK hE hS (rc_t_9_1 hT h0) (by decide) rfl (q := (RX1, TX1, 14)) rfl [.ref (rf (rf (rf a0 1) 1) v3.toNatClampNeg)]) rfl rfl hl.1 rfl (lv_room (Nat.le_of_ble_eq_true rfl)) dX8_meanNote_31 ⟨Nat.le_of_ble_eq_true rfl, Nat.le_of_ble_eq_true rfl⟩) (fun H locs hW hS => ?_)
        have hm := hm0
        clear hm0 hc_2
        refine lv_iadd hx hb dX8_meanNote_34 ?_
        refine lv_topi (fun v1_3 ev => ?_)
        replace hm := rc_lt_at hm ev
        clear ev
        refine lv_istore_n (lv' := [(1, .int v1_3), (0, .ref a0), (2, .int v2), (3, .int v3)]) hx hb dX8_meanNote_35 rfl hl (by decide) rfl (fun ls hl => ?_)
        refine lv_iload_n hx hb dX8_meanNote_36 rfl (lv_at hl 2 rfl) ?_
        refine lv_aload_n hx hb dX8_meanNote_37 rfl (lv_at hl 1 rfl) ?_
        refine rg_9_1 hx hb hts hown hK hW h0 tw_2_83 dX8_meanNote_38 ?_
        refine rg_2_1 hx hb hts hown hK hW (rc_t_9_1 hT h0) tw_1_145 dX8_meanNote_41 ?_
        refine lv_iload_n hx hb dX8_meanNote_44 rfl (lv_at hl 3 rfl) ?_
        have hi_4 := (rc_ix hm).1
        replace hm := (rc_ix hm).2
        refine rc_aald hx hb hK hW (rc_t_2_1 hT (rc_t_9_1 hT h0)) (by decide) rfl 4 rfl hi_4 dX8_meanNote_45 ?_
        obtain ⟨w_5, σ_5, hc_5, hm0⟩ := rc_bd_inv hm
        clear hm
        refine rc_ci hS (va_runV (As := []) (rest := [.int v2]) ⟨hx, hb, hml, hown, hts⟩ (k_X0_isEmpty l hT (rf (rf (rf a0 1) 1) v3.toNatClampNeg) (rc_t_25 hT (rc_t_2_1 hT (rc_t_9_1 hT h0)) hi_4) H.size _ _ _ hc_5) (cwV 0 hts (rc_gV tw_2_238 tw_2_239 tw_3_0 tw_1_5 tw_3_1) rfl rfl rfl (by decide +kernel) ⟨Nat.le_of_ble_eq_true rfl, Nat.le_of_ble_eq_true rfl⟩) (rc_preV hT hW hK hE hS (rc_t_25 hT (rc_t_2_1 hT (rc_t_9_1 hT h0)) hi_4) (by decide) rfl (q := (RX0, TX0, 6)) rfl []) rfl rfl hl.1 rfl (lv_room (Nat.le_of_ble_eq_true rfl)) dX8_meanNote_46 ⟨Nat.le_of_ble_eq_true rfl, Nat.le_of_ble_eq_true rfl⟩) (fun H locs hW hS => ?_)
        have hm := hm0
        clear hm0 hc_5
        refine lv_if_eq (tgt := 56) hx hb dX8_meanNote_49 (by decide) (fun c_10 => ?_) (fun c_10 => ?_)
        · replace hm := rc_t hm c_10
          refine lv_iconst (v := 1) hx hb dX8_meanNote_56 (by decide) ?_
          refine lv_iadd hx hb dX8_meanNote_57 ?_
          refine lv_topi (fun v2_6 ev => ?_)
          replace hm := rc_lt_at hm ev
          clear ev
          refine lv_istore_n (lv' := [(2, .int v2_6), (1, .int v1_3), (0, .ref a0), (3, .int v3)]) hx hb dX8_meanNote_58 rfl hl (by decide) rfl (fun ls hl => ?_)
          obtain ⟨v3_7, ev⟩ : ∃ y : Int32, y = (v3 + 1) := ⟨_, rfl⟩
          replace hm := rc_lt_at hm ev
          refine lv_iinc (v := v3_7) (lv' := [(3, .int v3_7), (2, .int v2_6), (1, .int v1_3), (0, .ref a0)]) hx hb dX8_meanNote_59 hl (k := 3) rfl (by rw [ev]; rfl) (by decide) rfl (fun ls hl => ?_)
          clear ev
          refine lv_goto (tgt := 6) hx hb dX8_meanNote_62 (by decide) ?_
          exact ih v1_3 v2_6 v3_7 σ_5 _ _ _ hm hW hS (lv_sub hl [3, 2, 1, 0] rfl)
        · replace hm := rc_f hm c_10
          refine lv_iconst (v := 0) hx hb dX8_meanNote_52 (by decide) ?_
          refine lv_goto (tgt := 57) hx hb dX8_meanNote_53 (by decide) ?_
          refine lv_iadd hx hb dX8_meanNote_57 ?_
          refine lv_topi (fun v2_8 ev => ?_)
          replace hm := rc_lt_at hm ev
          clear ev
          refine lv_istore_n (lv' := [(2, .int v2_8), (1, .int v1_3), (0, .ref a0), (3, .int v3)]) hx hb dX8_meanNote_58 rfl hl (by decide) rfl (fun ls hl => ?_)
          obtain ⟨v3_9, ev⟩ : ∃ y : Int32, y = (v3 + 1) := ⟨_, rfl⟩
          replace hm := rc_lt_at hm ev
          refine lv_iinc (v := v3_9) (lv' := [(3, .int v3_9), (2, .int v2_8), (1, .int v1_3), (0, .ref a0)]) hx hb dX8_meanNote_59 hl (k := 3) rfl (by rw [ev]; rfl) (by decide) rfl (fun ls hl => ?_)
          clear ev
          refine lv_goto (tgt := 6) hx hb dX8_meanNote_62 (by decide) ?_
          exact ih v1_3 v2_8 v3_9 σ_5 _ _ _ hm hW hS (lv_sub hl [3, 2, 1, 0] rfl)
  unfold f_X8_meanNote at hm
  refine lv_iconst (v := 0) hx hb dX8_meanNote_0 (by decide) ?_
  refine lv_istore_n (lv' := [(1, .int (0 : Int32)), (0, .ref a0)]) hx hb dX8_meanNote_1 rfl hl (by decide) rfl (fun ls hl => ?_)
  refine lv_iconst (v := 0) hx hb dX8_meanNote_2 (by decide) ?_
  refine lv_istore_n (lv' := [(2, .int (0 : Int32)), (1, .int (0 : Int32)), (0, .ref a0)]) hx hb dX8_meanNote_3 rfl hl (by decide) rfl (fun ls hl => ?_)
  refine lv_iconst (v := 0) hx hb dX8_meanNote_4 (by decide) ?_
  refine lv_istore_n (lv' := [(3, .int (0 : Int32)), (2, .int (0 : Int32)), (1, .int (0 : Int32)), (0, .ref a0)]) hx hb dX8_meanNote_5 rfl hl (by decide) rfl (fun ls hl => ?_)
  refine lp_6 _ (fun v1_12 v2_13 v3_14 σ_15 H locs ls hm hW hS hl => ?_) rc_fu (0 : Int32) (0 : Int32) (0 : Int32) σ _ _ _ hm hW hS (lv_sub hl [3, 2, 1, 0] rfl)
  refine lv_iload_n hx hb dX8_meanNote_65 rfl (lv_at hl 1 rfl) ?_
  refine lv_if_ne (tgt := 77) hx hb dX8_meanNote_66 (by decide) (fun c_17 => ?_) (fun c_17 => ?_)
  · replace hm := rc_f hm c_17
    refine lv_iload_n hx hb dX8_meanNote_77 rfl (lv_at hl 0 rfl) ?_
    refine lv_i2d hx hb dX8_meanNote_78 ?_
    refine lv_iload_n hx hb dX8_meanNote_79 rfl (lv_at hl 1 rfl) ?_
    refine lv_i2d hx hb dX8_meanNote_80 ?_
    have hz_16 : vf_n64 (FP.ddiv (FP.i2d v1_12) (FP.i2d v2_13)) := (rc_dc hm).1
    replace hm := (rc_dc hm).2
    refine lv_ddiv hx hb dX8_meanNote_81 hz_16 ?_
    exact rc_xdret hx hb hr hlocks hW hS (Nat.le_of_ble_eq_true rfl) (Nat.le_of_ble_eq_true rfl) hm dX8_meanNote_82
  · replace hm := rc_t hm c_17
    exact rc_throw (n := 6) hx hb hl9 hT hE hW hS hts hown rfl (by decide) (by decide) rc_hk_6 rc_hi_6 (rc_hat_6 hts hE) rc_hgd_6 (hl.1.trans hml.symm) dX8_meanNote_69 dX8_meanNote_72 dX8_meanNote_73 dX8_meanNote_76 hout ⟨Nat.le_of_ble_eq_true rfl, Nat.le_of_ble_eq_true rfl, Nat.le_of_ble_eq_true rfl, Nat.le_of_ble_eq_true rfl⟩ hlocks (Nat.le_of_ble_eq_true rfl) (Nat.le_of_ble_eq_true rfl) hm
set_option maxHeartbeats 4000000 in
set_option maxRecDepth 100000 in
theorem k_X0_pourIn (l : Launch) {Y : rc_Y} {sh : Nat → Nat} {rf : rc_F} (hT : rc_T Y sh rf) (a0 : Nat) (q1 : Nat) (u2 : Int32) (h0 : sh a0 = 1) (hq1 : sh q1 = 1) (sz : Nat) (σ σ' : rc_S) (r : Unit) (hm : f_X0_pourIn rf a0 q1 u2 σ = some (r, σ')) : Met l yX0_pourIn (Cond.code yX0_pourIn cX0_pourIn 3 none :: rc_big) ({ frames := 4, cells := 0, slots := 0, locals := 86 } : Room) (rc_P Y sh rf σ sz [.ref a0, .ref q1, .int u2]) (va_Qv (fun (_ : Unit) => True) (fun _ t => rc_W Y sh rf σ' t.heap) (rc_A sh sz)) 0 0 (rc_A sh sz) := by
  refine Met.ofW (cc := cX0_pourIn) (maxL := 3) (ret := none) (by decide +kernel) rfl ?_
  intro p e s m args below meth c s₁ B hml hv
  obtain ⟨rfl, hsz, hW, hK, hE⟩ := hv
  have hx := B.exec
  have hb := B.bytes
  have hr := B.returns
  have hts : ∀ w ∈ rc_big, w.before _ s = true := fun w h => atoms_spec (ws := Cond.code yX0_pourIn cX0_pourIn 3 none :: rc_big) B.pre w (List.mem_cons_of_mem _ h)
  have hown : s.vm.findClass RX0 = some m.cls := findClass_of_methodNamed B.named
  have hlocks := B.notSynchronized
  clear B
  subst hsz
  have hS : va_S (rc_A sh s.heap.size) s.heap s.heap [] := va_S.rf
  have hl := lv_entry ([.ref a0, .ref q1, .int u2]) (n := 3) (Nat.le_of_ble_eq_true rfl)
  rw [lg_entry_eq]
  generalize (lg_sl ([.ref a0, .ref q1, .int u2]) ++ List.replicate (3 - (lg_sl ([.ref a0, .ref q1, .int u2])).length) Slot.unset).toArray = ls at hl ⊢
  have hl : lv_has ls 3 [(0, .ref a0), (1, .ref q1), (2, .int u2)] := hl
  unfold f_X0_pourIn at hm
  refine lv_aload_n hx hb dX0_pourIn_0 rfl (lv_at hl 0 rfl) ?_
  obtain ⟨w_1, σ_1, hc_1, hm0⟩ := rc_bd_inv hm
  clear hm
  refine rc_ci hS (va_runV (As := []) (rest := []) ⟨hx, hb, hml, hown, hts⟩ (k_X0_isEmpty l hT a0 h0 s.heap.size _ _ _ hc_1) (cwV 0 hts (rc_gV tw_3_25 tw_2_239 tw_3_0 tw_1_5 tw_3_1) rfl rfl rfl (by decide +kernel) ⟨Nat.le_of_ble_eq_true rfl, Nat.le_of_ble_eq_true rfl⟩) (rc_preV hT hW hK hE hS h0 (by decide) rfl (q := (RX0, TX0, 6)) rfl []) rfl rfl hl.1 rfl (lv_room (Nat.le_of_ble_eq_true rfl)) dX0_pourIn_1 ⟨Nat.le_of_ble_eq_true rfl, Nat.le_of_ble_eq_true rfl⟩) (fun H locs hW hS => ?_)
  have hm := hm0
  clear hm0 hc_1
  refine lv_if_eq (tgt := 12) hx hb dX0_pourIn_4 (by decide) (fun c_9 => ?_) (fun c_9 => ?_)
  · replace hm := rc_t hm c_9
    refine lv_aload_n hx hb dX0_pourIn_12 rfl (lv_at hl 0 rfl) ?_
    refine lv_dup hx hb dX0_pourIn_13 rfl ?_
    refine rg_1_2 hx hb hts hown hK hW h0 tw_1_93 dX0_pourIn_14 ?_
    refine lv_aload_n hx hb dX0_pourIn_17 rfl (lv_at hl 1 rfl) ?_
    refine lv_iload_n hx hb dX0_pourIn_18 rfl (lv_at hl 2 rfl) ?_
    obtain ⟨w_2, σ_2, hc_2, hm0⟩ := rc_bd_inv hm
    clear hm
    refine rc_ci hS (va_runV (As := [.int u2]) (rest := [.int (σ_1 a0 2), .ref a0]) ⟨hx, hb, hml, hown, hts⟩ (k_X0_takeOut l hT q1 u2 hq1 H.size _ _ _ hc_2) (cwV 1 hts (rc_gV tw_4_134 tw_4_105 tw_4_106 tw_1_5 tw_4_107) rfl rfl rfl (by decide +kernel) ⟨Nat.le_of_ble_eq_true rfl, Nat.le_of_ble_eq_true rfl⟩) (rc_preV hT hW hK hE hS hq1 (by decide) rfl (q := (RX0, TX0, 6)) rfl [.int u2]) rfl rfl hl.1 rfl (lv_room (Nat.le_of_ble_eq_true rfl)) dX0_pourIn_19 ⟨Nat.le_of_ble_eq_true rfl, Nat.le_of_ble_eq_true rfl⟩) (fun H locs hW hS => ?_)
    have hm := hm0
    clear hm0 hc_2
    refine lv_iadd hx hb dX0_pourIn_22 ?_
    refine rp_1_2 hx hb hts hown hK hW hS h0 tw_1_93 dX0_pourIn_23 (fun σ_3 H locs eσ hW hS => ?_)
    replace hm := rc_lt_at hm eσ
    clear eσ
    refine lv_aload_n hx hb dX0_pourIn_26 rfl (lv_at hl 0 rfl) ?_
    refine lv_dup hx hb dX0_pourIn_27 rfl ?_
    refine rg_1_1 hx hb hts hown hK hW h0 tw_1_89 dX0_pourIn_28 ?_
    refine lv_iload_n hx hb dX0_pourIn_31 rfl (lv_at hl 2 rfl) ?_
    refine lv_iadd hx hb dX0_pourIn_32 ?_
    refine rp_1_1 hx hb hts hown hK hW hS h0 tw_1_89 dX0_pourIn_33 (fun σ_4 H locs eσ hW hS => ?_)
    replace hm := rc_lt_at hm eσ
    clear eσ
    exact rc_evret hx hb hr hlocks hW hS (Nat.le_of_ble_eq_true rfl) (Nat.le_of_ble_eq_true rfl) hm dX0_pourIn_36
  · replace hm := rc_f hm c_9
    refine lv_aload_n hx hb dX0_pourIn_7 rfl (lv_at hl 0 rfl) ?_
    refine lv_aload_n hx hb dX0_pourIn_8 rfl (lv_at hl 1 rfl) ?_
    obtain ⟨w_5, σ_5, hc_5, hm0⟩ := rc_bd_inv hm
    clear hm
    refine rc_cv hS (va_runV (As := [.ref q1]) (rest := []) ⟨hx, hb, hml, hown, hts⟩ (k_X0_copyVintage l hT a0 q1 h0 hq1 H.size _ _ _ hc_5) (cwV 1 hts (rc_gV tw_3_159 tw_3_160 tw_3_161 tw_1_5 tw_3_162) rfl rfl rfl (by decide +kernel) ⟨Nat.le_of_ble_eq_true rfl, Nat.le_of_ble_eq_true rfl⟩) (rc_preV hT hW hK hE hS h0 (by decide) rfl (q := (RX0, TX0, 6)) rfl [.ref q1]) rfl rfl hl.1 rfl (lv_room (Nat.le_of_ble_eq_true rfl)) dX0_pourIn_9 ⟨Nat.le_of_ble_eq_true rfl, Nat.le_of_ble_eq_true rfl⟩) (fun H locs hW hS => ?_)
    have hm := hm0
    clear hm0 hc_5
    refine lv_aload_n hx hb dX0_pourIn_12 rfl (lv_at hl 0 rfl) ?_
    refine lv_dup hx hb dX0_pourIn_13 rfl ?_
    refine rg_1_2 hx hb hts hown hK hW h0 tw_1_93 dX0_pourIn_14 ?_
    refine lv_aload_n hx hb dX0_pourIn_17 rfl (lv_at hl 1 rfl) ?_
    refine lv_iload_n hx hb dX0_pourIn_18 rfl (lv_at hl 2 rfl) ?_
    obtain ⟨w_6, σ_6, hc_6, hm0⟩ := rc_bd_inv hm
    clear hm
    refine rc_ci hS (va_runV (As := [.int u2]) (rest := [.int (σ_5 a0 2), .ref a0]) ⟨hx, hb, hml, hown, hts⟩ (k_X0_takeOut l hT q1 u2 hq1 H.size _ _ _ hc_6) (cwV 1 hts (rc_gV tw_4_134 tw_4_105 tw_4_106 tw_1_5 tw_4_107) rfl rfl rfl (by decide +kernel) ⟨Nat.le_of_ble_eq_true rfl, Nat.le_of_ble_eq_true rfl⟩) (rc_preV hT hW hK hE hS hq1 (by decide) rfl (q := (RX0, TX0, 6)) rfl [.int u2]) rfl rfl hl.1 rfl (lv_room (Nat.le_of_ble_eq_true rfl)) dX0_pourIn_19 ⟨Nat.le_of_ble_eq_true rfl, Nat.le_of_ble_eq_true rfl⟩) (fun H locs hW hS => ?_)
    have hm := hm0
    clear hm0 hc_6
    refine lv_iadd hx hb dX0_pourIn_22 ?_
    refine rp_1_2 hx hb hts hown hK hW hS h0 tw_1_93 dX0_pourIn_23 (fun σ_7 H locs eσ hW hS => ?_)
    replace hm := rc_lt_at hm eσ
    clear eσ
    refine lv_aload_n hx hb dX0_pourIn_26 rfl (lv_at hl 0 rfl) ?_
    refine lv_dup hx hb dX0_pourIn_27 rfl ?_
    refine rg_1_1 hx hb hts hown hK hW h0 tw_1_89 dX0_pourIn_28 ?_
    refine lv_iload_n hx hb dX0_pourIn_31 rfl (lv_at hl 2 rfl) ?_
    refine lv_iadd hx hb dX0_pourIn_32 ?_
    refine rp_1_1 hx hb hts hown hK hW hS h0 tw_1_89 dX0_pourIn_33 (fun σ_8 H locs eσ hW hS => ?_)
    replace hm := rc_lt_at hm eσ
    clear eσ
    exact rc_evret hx hb hr hlocks hW hS (Nat.le_of_ble_eq_true rfl) (Nat.le_of_ble_eq_true rfl) hm dX0_pourIn_36
