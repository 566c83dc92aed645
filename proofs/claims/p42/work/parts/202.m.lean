def f_X1_rainfallOf (rf : rc_F) (a0 : Nat) (u1 : Int32) (σ : rc_S) : Option (Nat × rc_S) :=
  rc_bd (f_J9_floorMod_7cf53 rf u1 (12 : Int32) σ) fun w_1 σ_1 =>
  rc_ck (rc_in w_1 12) <|
  some ((rf (rf a0 4) w_1.toNatClampNeg), σ_1)
def f_X2_aside (rf : rc_F) (a0 : Nat) (σ : rc_S) : Option (Nat × rc_S) :=
  rc_bd (f_J9_floorMod_7cf53 rf ((σ a0 1) + (σ a0 2)) (9 : Int32) σ) fun w_1 σ_1 =>
  rc_ck (rc_in w_1 9) <|
  some ((rf (rf a0 0) w_1.toNatClampNeg), σ_1)
def f_X2_keepAside (rf : rc_F) (a0 : Nat) (σ : rc_S) : Option (Unit × rc_S) :=
  if (8 : Int32) ≤ (σ a0 2) then
    rc_bd (f_J9_floorMod_7cf53 rf ((σ a0 1) + (1 : Int32)) (9 : Int32) σ) fun w_1 σ_1 =>
    rc_lt (rc_up σ_1 a0 1 w_1) fun σ_2 =>
    some ((), σ_2)
  else
    rc_lt (rc_up σ a0 2 ((σ a0 2) + (1 : Int32))) fun σ_3 =>
    some ((), σ_3)
def f_X2_takeLatest (rf : rc_F) (a0 : Nat) (σ : rc_S) : Option (Nat × rc_S) :=
  rc_lt (rc_up σ a0 2 ((σ a0 2) - (1 : Int32))) fun σ_1 =>
  rc_bd (f_X2_aside rf a0 σ_1) fun w_2 σ_2 =>
  some (w_2, σ_2)
def f_X2_forget (rf : rc_F) (a0 : Nat) (σ : rc_S) : Option (Unit × rc_S) :=
  rc_lt (rc_up σ a0 2 (0 : Int32)) fun σ_1 =>
  some ((), σ_1)
def f_X3_copy_2 (rf : rc_F) (a0 : Nat) (r1 : Nat) (K : Int32 → rc_S → Option (Unit × rc_S)) : Nat → Int32 → rc_S → Option (Unit × rc_S)
  | 0, _, _ => none
  | n + 1, v2, σ =>
    if (4 : Int32) ≤ v2 then
      K v2 σ
    else
      rc_ck (rc_in v2 4) <|
      rc_ck (rc_in v2 4) <|
      rc_lt (rc_up σ (rf a0 0) v2.toNatClampNeg (σ (rf r1 0) v2.toNatClampNeg)) fun σ_3 =>
      rc_ck (rc_in v2 4) <|
      rc_ck (rc_in v2 4) <|
      rc_lt (rc_up σ_3 (rf a0 1) v2.toNatClampNeg (vp_nar .boolean (σ_3 (rf r1 1) v2.toNatClampNeg))) fun σ_6 =>
      rc_lt (v2 + 1) fun v2_7 =>
      f_X3_copy_2 rf a0 r1 K n v2_7 σ_6
def f_X3_copy (rf : rc_F) (a0 : Nat) (q1 : Nat) (σ : rc_S) : Option (Unit × rc_S) :=
  f_X3_copy_2 rf a0 q1 (fun v2_9 σ_10 =>
    rc_lt (rc_up σ_10 a0 2 (σ_10 q1 2)) fun σ_11 =>
    some ((), σ_11)
  ) rc_fu (0 : Int32) σ
def f_X3_has (rf : rc_F) (a0 : Nat) (u1 : Int32) (σ : rc_S) : Option (Int32 × rc_S) :=
  if u1 < 0 then
    some ((0 : Int32), σ)
  else
    if (σ a0 2) ≤ u1 then
      some ((0 : Int32), σ)
    else
      some ((1 : Int32), σ)
def f_X3_add (rf : rc_F) (a0 : Nat) (u1 : Int32) (u2 : Int32) (σ : rc_S) : Option (Unit × rc_S) :=
  rc_ck (rc_in (σ a0 2) 4) <|
  rc_lt (rc_up σ (rf a0 0) (σ a0 2).toNatClampNeg u1) fun σ_2 =>
  rc_ck (rc_in (σ_2 a0 2) 4) <|
  rc_lt (rc_up σ_2 (rf a0 1) (σ_2 a0 2).toNatClampNeg (vp_nar .boolean u2)) fun σ_4 =>
  rc_lt (rc_up σ_4 a0 2 ((σ_4 a0 2) + (1 : Int32))) fun σ_5 =>
  some ((), σ_5)
def f_X3_remove_2 (rf : rc_F) (a0 : Nat) (K : Int32 → rc_S → Option (Unit × rc_S)) : Nat → Int32 → rc_S → Option (Unit × rc_S)
  | 0, _, _ => none
  | n + 1, v2, σ =>
    if (σ a0 2) ≤ (v2 + (1 : Int32)) then
      K v2 σ
    else
      rc_ck (rc_in (v2 + (1 : Int32)) 4) <|
      rc_ck (rc_in v2 4) <|
      rc_lt (rc_up σ (rf a0 0) v2.toNatClampNeg (σ (rf a0 0) (v2 + (1 : Int32)).toNatClampNeg)) fun σ_3 =>
      rc_ck (rc_in (v2 + (1 : Int32)) 4) <|
      rc_ck (rc_in v2 4) <|
      rc_lt (rc_up σ_3 (rf a0 1) v2.toNatClampNeg (vp_nar .boolean (σ_3 (rf a0 1) (v2 + (1 : Int32)).toNatClampNeg))) fun σ_6 =>
      rc_lt (v2 + 1) fun v2_7 =>
      f_X3_remove_2 rf a0 K n v2_7 σ_6
def f_X3_remove (rf : rc_F) (a0 : Nat) (u1 : Int32) (σ : rc_S) : Option (Unit × rc_S) :=
  f_X3_remove_2 rf a0 (fun v2_9 σ_10 =>
    rc_lt (rc_up σ_10 a0 2 ((σ_10 a0 2) - (1 : Int32))) fun σ_11 =>
    some ((), σ_11)
  ) rc_fu u1 σ
def f_X3_mildPalate (rf : rc_F) (a0 : Nat) (u1 : Int32) (σ : rc_S) : Option (Int32 × rc_S) :=
  rc_ck (rc_in u1 4) <|
  rc_ck (rc_in u1 4) <|
  if (σ (rf a0 1) u1.toNatClampNeg) = 0 then
    some (((σ (rf a0 0) u1.toNatClampNeg) + (0 : Int32)), σ)
  else
    some (((σ (rf a0 0) u1.toNatClampNeg) + (2 : Int32)), σ)
def f_X3_doesPalateNotice (rf : rc_F) (u0 : Int32) (u1 : Int32) (σ : rc_S) : Option (Int32 × rc_S) :=
  if u1 ≤ 0 then
    some ((0 : Int32), σ)
  else
    if u1 ≤ ((50 : Int32) - ((5 : Int32) * u0)) then
      some ((0 : Int32), σ)
    else
      some ((1 : Int32), σ)
def f_X4_copy (rf : rc_F) (a0 : Nat) (q1 : Nat) (σ : rc_S) : Option (Unit × rc_S) :=
  rc_lt (rc_up σ a0 0 (σ q1 0)) fun σ_1 =>
  rc_lt (rc_up σ_1 a0 1 (σ_1 q1 1)) fun σ_2 =>
  rc_lt (rc_up σ_2 a0 2 (σ_2 q1 2)) fun σ_3 =>
  some ((), σ_3)
def f_X5_because (rf : rc_F) (a0 : Nat) (u1 : Int32) (u2 : Int32) (σ : rc_S) : Option (Int32 × rc_S) :=
  rc_lt (rc_up σ a0 0 u1) fun σ_1 =>
  rc_lt (rc_up σ_1 a0 1 u2) fun σ_2 =>
  rc_lt (rc_up σ_2 a0 2 (0 : Int32)) fun σ_3 =>
  some ((-1 : Int32), σ_3)
def f_X6_add (rf : rc_F) (a0 : Nat) (u1 : Int32) (σ : rc_S) : Option (Unit × rc_S) :=
  rc_ck (rc_in (σ a0 1) 60) <|
  rc_lt (rc_up σ (rf a0 0) (σ a0 1).toNatClampNeg (vp_nar .char u1)) fun σ_2 =>
  rc_lt (rc_up σ_2 a0 1 ((σ_2 a0 1) + (1 : Int32))) fun σ_3 =>
  some ((), σ_3)
def f_X6_makeEmpty (rf : rc_F) (a0 : Nat) (σ : rc_S) : Option (Unit × rc_S) :=
  rc_lt (rc_up σ a0 1 (0 : Int32)) fun σ_1 =>
  some ((), σ_1)
def f_X6_numberOf (rf : rc_F) (a0 : Nat) (u1 : Int32) (u2 : Int32) (σ : rc_S) : Option (Int32 × rc_S) :=
  rc_ck (rc_in ((u1 * (3 : Int32)) + u2) 180) <|
  some ((σ (rf a0 3) ((u1 * (3 : Int32)) + u2).toNatClampNeg), σ)
def f_X6_formOf (rf : rc_F) (u0 : Int32) (σ : rc_S) : Option (Nat × rc_S) :=
  if u0 = (104 : Int32) then
    some (2, σ)
  else
  if u0 = (112 : Int32) then
    some (1, σ)
  else
  if u0 = (115 : Int32) then
    some (0, σ)
  else
  if u0 = (121 : Int32) then
    some (3, σ)
  else
  some (4, σ)
def f_X6_readSign (rf : rc_F) (a0 : Nat) (u1 : Int32) (σ : rc_S) : Option (Int32 × rc_S) :=
  if (σ a0 1) ≤ (σ a0 5) then
    some ((0 : Int32), σ)
  else
    rc_ck (rc_in (σ a0 5) 60) <|
    if (σ (rf a0 0) (σ a0 5).toNatClampNeg) = u1 then
      rc_lt (rc_up σ a0 5 ((σ a0 5) + (1 : Int32))) fun σ_2 =>
      some ((1 : Int32), σ_2)
    else
      some ((0 : Int32), σ)
def f_X6_readNumber_4 (rf : rc_F) (a0 : Nat) (v1 : Int32) (K : Int32 → Int32 → rc_S → Option (Int32 × rc_S)) : Nat → Int32 → Int32 → rc_S → Option (Int32 × rc_S)
  | 0, _, _, _ => none
  | n + 1, v2, v3, σ =>
    if v1 ≤ v3 then
      K v2 v3 σ
    else
      if (σ a0 1) ≤ (σ a0 5) then
        K v2 v3 σ
      else
        rc_ck (rc_in (σ a0 5) 60) <|
        if (σ (rf a0 0) (σ a0 5).toNatClampNeg) < (48 : Int32) then
          K v2 v3 σ
        else
          rc_ck (rc_in (σ a0 5) 60) <|
          if (57 : Int32) < (σ (rf a0 0) (σ a0 5).toNatClampNeg) then
            K v2 v3 σ
          else
            rc_ck (rc_in (σ a0 5) 60) <|
            rc_lt (((10 : Int32) * v2) + ((σ (rf a0 0) (σ a0 5).toNatClampNeg) - (48 : Int32))) fun v2_4 =>
            rc_lt (v3 + 1) fun v3_5 =>
            rc_lt (rc_up σ a0 5 ((σ a0 5) + (1 : Int32))) fun σ_6 =>
            f_X6_readNumber_4 rf a0 v1 K n v2_4 v3_5 σ_6
def f_X6_readNumber (rf : rc_F) (a0 : Nat) (u1 : Int32) (σ : rc_S) : Option (Int32 × rc_S) :=
  f_X6_readNumber_4 rf a0 u1 (fun v2_11 v3_12 σ_13 =>
    if v3_12 = 0 then
      some ((0 : Int32), σ_13)
    else
      rc_ck (rc_in (((σ_13 a0 4) * (3 : Int32)) + (σ_13 a0 6)) 180) <|
      rc_lt (rc_up σ_13 (rf a0 3) (((σ_13 a0 4) * (3 : Int32)) + (σ_13 a0 6)).toNatClampNeg v2_11) fun σ_15 =>
      rc_lt (rc_up σ_15 a0 6 ((σ_15 a0 6) + (1 : Int32))) fun σ_16 =>
      some ((1 : Int32), σ_16)
  ) rc_fu (0 : Int32) (0 : Int32) σ
def f_X7_fillUnder_5 (rf : rc_F) (a0 : Nat) (v1 : Int32) (v2 : Int32) (K : Int32 → Int32 → rc_S → Option (Int32 × rc_S)) : Nat → Int32 → Int32 → rc_S → Option (Int32 × rc_S)
  | 0, _, _, _ => none
  | n + 1, v3, v4, σ =>
    if (σ (rf a0 0) 2) ≤ v4 then
      K v3 v4 σ
    else
      rc_ck (rc_in v4 8) <|
      if v3 ≤ 0 then
        rc_lt (v4 + 1) fun v4_2 =>
        f_X7_fillUnder_5 rf a0 v1 v2 K n v3 v4_2 σ
      else
        if (σ (rf (rf (rf a0 0) 1) v4.toNatClampNeg) 0) = v1 then
          rc_bd (f_X0_isEmpty rf (rf (rf (rf a0 0) 1) v4.toNatClampNeg) σ) fun w_4 σ_4 =>
          if w_4 = 0 then
            rc_lt (v4 + 1) fun v4_5 =>
            f_X7_fillUnder_5 rf a0 v1 v2 K n v3 v4_5 σ_4
          else
            rc_lt (rc_up σ_4 (rf (rf (rf a0 0) 1) v4.toNatClampNeg) 1 (if (20 : Int32) < v3 then (20 : Int32) else v3)) fun σ_6 =>
            rc_lt (rc_up σ_6 (rf (rf (rf a0 0) 1) v4.toNatClampNeg) 3 (σ_6 (rf a0 0) 5)) fun σ_7 =>
            rc_lt (rc_up σ_7 (rf (rf (rf a0 0) 1) v4.toNatClampNeg) 4 (σ_7 (rf a0 0) 7)) fun σ_8 =>
            rc_ck (rc_in v1 4) <|
            rc_lt (rc_up σ_8 (rf (rf (rf a0 0) 1) v4.toNatClampNeg) 5 (σ_8 (rf (rf a0 0) 0) v1.toNatClampNeg)) fun σ_10 =>
            rc_lt (v3 - (σ_10 (rf (rf (rf a0 0) 1) v4.toNatClampNeg) 1)) fun v3_11 =>
            rc_lt (v4 + 1) fun v4_12 =>
            f_X7_fillUnder_5 rf a0 v1 v2 K n v3_11 v4_12 σ_10
        else
          rc_lt (v4 + 1) fun v4_3 =>
          f_X7_fillUnder_5 rf a0 v1 v2 K n v3 v4_3 σ
def f_X7_fillUnder (rf : rc_F) (a0 : Nat) (u1 : Int32) (u2 : Int32) (σ : rc_S) : Option (Int32 × rc_S) :=
  f_X7_fillUnder_5 rf a0 u1 u2 (fun v3_17 v4_18 σ_19 =>
    some ((u2 - v3_17), σ_19)
  ) rc_fu u2 (0 : Int32) σ
def f_X7_tell (rf : rc_F) (a0 : Nat) (u1 : Int32) (u2 : Int32) (σ : rc_S) : Option (Unit × rc_S) :=
  rc_bd (f_X1_rainfallOf rf (rf a0 0) (σ (rf a0 0) 5) σ) fun w_1 σ_1 =>
  rc_lt (rc_up σ_1 w_1 0 u1) fun σ_2 =>
  rc_lt (rc_up σ_2 w_1 1 (σ_2 (rf a0 0) 7)) fun σ_3 =>
  rc_lt (rc_up σ_3 w_1 2 u2) fun σ_4 =>
  rc_lt (rc_up σ_4 (rf a0 0) 5 ((σ_4 (rf a0 0) 5) + (1 : Int32))) fun σ_5 =>
  some ((), σ_5)
def f_X7_letLeave (rf : rc_F) (a0 : Nat) (u1 : Int32) (σ : rc_S) : Option (Int32 × rc_S) :=
  rc_bd (f_X3_has rf (rf (rf a0 0) 3) u1 σ) fun w_1 σ_1 =>
  if w_1 = 0 then
    rc_bd (f_X5_because rf (rf a0 1) (4 : Int32) (σ_1 (rf (rf a0 0) 3) 2) σ_1) fun w_3 σ_3 =>
    some (w_3, σ_3)
  else
    rc_bd (f_X3_remove rf (rf (rf a0 0) 3) u1 σ_1) fun _ σ_2 =>
    some ((σ_2 (rf (rf a0 0) 3) 2), σ_2)
set_option maxHeartbeats 4000000 in
set_option maxRecDepth 100000 in
theorem k_X1_rainfallOf (l : Launch) {Y : rc_Y} {sh : Nat → Nat} {rf : rc_F} (hT : rc_T Y sh rf) (a0 : Nat) (u1 : Int32) (h0 : sh a0 = 2) (sz : Nat) (σ σ' : rc_S) (r : Nat) (hm : f_X1_rainfallOf rf a0 u1 σ = some (r, σ')) : Met l yX1_rainfallOf (Cond.code yX1_rainfallOf cX1_rainfallOf 2 (some (.object "RainCellar$Rainfall")) :: rc_big) ({ frames := 1, cells := 0, slots := 0, locals := 22 } : Room) (rc_P Y sh rf σ sz [.ref a0, .int u1]) (va_Qr (fun (_ : Unit) => True) (fun _ a t => (a = r ∧ sh a = 5) ∧ rc_W Y sh rf σ' t.heap) (rc_A sh sz)) 0 0 (rc_A sh sz) := by
  refine Met.ofW (cc := cX1_rainfallOf) (maxL := 2) (ret := (some (.object "RainCellar$Rainfall"))) (by decide +kernel) rfl ?_
  intro p e s m args below meth c s₁ B hml hv
  obtain ⟨rfl, hsz, hW, hK, hE⟩ := hv
  have hx := B.exec
  have hb := B.bytes
  have hr := B.returns
  have hts : ∀ w ∈ rc_big, w.before _ s = true := fun w h => atoms_spec (ws := Cond.code yX1_rainfallOf cX1_rainfallOf 2 (some (.object "RainCellar$Rainfall")) :: rc_big) B.pre w (List.mem_cons_of_mem _ h)
  have hown : s.vm.findClass RX1 = some m.cls := findClass_of_methodNamed B.named
  have hlocks := B.notSynchronized
  clear B
  subst hsz
  have hS : va_S (rc_A sh s.heap.size) s.heap s.heap [] := va_S.rf
  have hl := lv_entry ([.ref a0, .int u1]) (n := 2) (Nat.le_of_ble_eq_true rfl)
  rw [lg_entry_eq]
  generalize (lg_sl ([.ref a0, .int u1]) ++ List.replicate (2 - (lg_sl ([.ref a0, .int u1])).length) Slot.unset).toArray = ls at hl ⊢
  have hl : lv_has ls 2 [(0, .ref a0), (1, .int u1)] := hl
  unfold f_X1_rainfallOf at hm
  refine lv_aload_n hx hb dX1_rainfallOf_0 rfl (lv_at hl 0 rfl) ?_
  refine rg_2_4 hx hb hts hown hK hW h0 tw_1_152 dX1_rainfallOf_1 ?_
  refine lv_iload_n hx hb dX1_rainfallOf_4 rfl (lv_at hl 1 rfl) ?_
  refine lv_bipush (v := 12) hx hb dX1_rainfallOf_5 (by decide) ?_
  obtain ⟨w_1, σ_1, hc_1, hm0⟩ := rc_bd_inv hm
  clear hm
  refine rc_ci hS (va_runS (As := [.int u1, .int (12 : Int32)]) (rest := [.ref (rf a0 4)]) ⟨hx, hb, hml, hown, hts⟩ (k_J9_floorMod_7cf53 l hT u1 (12 : Int32)  s.heap.size _ _ _ hc_1) (va_cwS 2 hts (rc_gS tw_4_5 tw_3_149 tw_1_22 tw_3_150) rfl rfl rfl (by decide +kernel) ⟨Nat.le_of_ble_eq_true rfl, Nat.le_of_ble_eq_true rfl⟩) (rc_preS hT hW hK hE hS [.int u1, .int (12 : Int32)]) rfl rfl hl.1 rfl (lv_room (Nat.le_of_ble_eq_true rfl)) dX1_rainfallOf_7 ⟨Nat.le_of_ble_eq_true rfl, Nat.le_of_ble_eq_true rfl⟩) (fun H locs hW hS => ?_)
  have hm := hm0
  clear hm0 hc_1
  have hi_2 := (rc_ix hm).1
  replace hm := (rc_ix hm).2
  refine rc_aald hx hb hK hW (rc_t_2_4 hT h0) (by decide) rfl 6 rfl hi_2 dX1_rainfallOf_10 ?_
  exact rc_earet hx hb hr hlocks hW hS (Nat.le_of_ble_eq_true rfl) (Nat.le_of_ble_eq_true rfl) (rc_t_27 hT (rc_t_2_4 hT h0) hi_2) hm dX1_rainfallOf_11
set_option maxHeartbeats 4000000 in
set_option maxRecDepth 100000 in
theorem k_X2_aside (l : Launch) {Y : rc_Y} {sh : Nat → Nat} {rf : rc_F} (hT : rc_T Y sh rf) (a0 : Nat) (h0 : sh a0 = 3) (sz : Nat) (σ σ' : rc_S) (r : Nat) (hm : f_X2_aside rf a0 σ = some (r, σ')) : Met l yX2_aside (Cond.code yX2_aside cX2_aside 1 (some (.object "RainCellar$Cellar")) :: rc_big) ({ frames := 1, cells := 0, slots := 0, locals := 22 } : Room) (rc_P Y sh rf σ sz [.ref a0]) (va_Qr (fun (_ : Unit) => True) (fun _ a t => (a = r ∧ sh a = 2) ∧ rc_W Y sh rf σ' t.heap) (rc_A sh sz)) 0 0 (rc_A sh sz) := by
  refine Met.ofW (cc := cX2_aside) (maxL := 1) (ret := (some (.object "RainCellar$Cellar"))) (by decide +kernel) rfl ?_
  intro p e s m args below meth c s₁ B hml hv
  obtain ⟨rfl, hsz, hW, hK, hE⟩ := hv
  have hx := B.exec
  have hb := B.bytes
  have hr := B.returns
  have hts : ∀ w ∈ rc_big, w.before _ s = true := fun w h => atoms_spec (ws := Cond.code yX2_aside cX2_aside 1 (some (.object "RainCellar$Cellar")) :: rc_big) B.pre w (List.mem_cons_of_mem _ h)
  have hown : s.vm.findClass RX2 = some m.cls := findClass_of_methodNamed B.named
  have hlocks := B.notSynchronized
  clear B
  subst hsz
  have hS : va_S (rc_A sh s.heap.size) s.heap s.heap [] := va_S.rf
  have hl := lv_entry ([.ref a0]) (n := 1) (Nat.le_of_ble_eq_true rfl)
  rw [lg_entry_eq]
  generalize (lg_sl ([.ref a0]) ++ List.replicate (1 - (lg_sl ([.ref a0])).length) Slot.unset).toArray = ls at hl ⊢
  have hl : lv_has ls 1 [(0, .ref a0)] := hl
  unfold f_X2_aside at hm
  refine lv_aload_n hx hb dX2_aside_0 rfl (lv_at hl 0 rfl) ?_
  refine rg_3_0 hx hb hts hown hK hW h0 tw_2_6 dX2_aside_1 ?_
  refine lv_aload_n hx hb dX2_aside_4 rfl (lv_at hl 0 rfl) ?_
  refine rg_3_1 hx hb hts hown hK hW h0 tw_2_7 dX2_aside_5 ?_
  refine lv_aload_n hx hb dX2_aside_8 rfl (lv_at hl 0 rfl) ?_
  refine rg_3_2 hx hb hts hown hK hW h0 tw_2_8 dX2_aside_9 ?_
  refine lv_iadd hx hb dX2_aside_12 ?_
  refine lv_bipush (v := 9) hx hb dX2_aside_13 (by decide) ?_
  obtain ⟨w_1, σ_1, hc_1, hm0⟩ := rc_bd_inv hm
  clear hm
  refine rc_ci hS (va_runS (As := [.int ((σ a0 1) + (σ a0 2)), .int (9 : Int32)]) (rest := [.ref (rf a0 0)]) ⟨hx, hb, hml, hown, hts⟩ (k_J9_floorMod_7cf53 l hT ((σ a0 1) + (σ a0 2)) (9 : Int32)  s.heap.size _ _ _ hc_1) (va_cwS 2 hts (rc_gS tw_3_148 tw_3_149 tw_1_22 tw_3_150) rfl rfl rfl (by decide +kernel) ⟨Nat.le_of_ble_eq_true rfl, Nat.le_of_ble_eq_true rfl⟩) (rc_preS hT hW hK hE hS [.int ((σ a0 1) + (σ a0 2)), .int (9 : Int32)]) rfl rfl hl.1 rfl (lv_room (Nat.le_of_ble_eq_true rfl)) dX2_aside_15 ⟨Nat.le_of_ble_eq_true rfl, Nat.le_of_ble_eq_true rfl⟩) (fun H locs hW hS => ?_)
  have hm := hm0
  clear hm0 hc_1
  have hi_2 := (rc_ix hm).1
  replace hm := (rc_ix hm).2
  refine rc_aald hx hb hK hW (rc_t_3_0 hT h0) (by decide) rfl 5 rfl hi_2 dX2_aside_18 ?_
  exact rc_earet hx hb hr hlocks hW hS (Nat.le_of_ble_eq_true rfl) (Nat.le_of_ble_eq_true rfl) (rc_t_26 hT (rc_t_3_0 hT h0) hi_2) hm dX2_aside_19
set_option maxHeartbeats 4000000 in
set_option maxRecDepth 100000 in
theorem k_X2_keepAside (l : Launch) {Y : rc_Y} {sh : Nat → Nat} {rf : rc_F} (hT : rc_T Y sh rf) (a0 : Nat) (h0 : sh a0 = 3) (sz : Nat) (σ σ' : rc_S) (r : Unit) (hm : f_X2_keepAside rf a0 σ = some (r, σ')) : Met l yX2_keepAside (Cond.code yX2_keepAside cX2_keepAside 1 none :: rc_big) ({ frames := 1, cells := 0, slots := 0, locals := 22 } : Room) (rc_P Y sh rf σ sz [.ref a0]) (va_Qv (fun (_ : Unit) => True) (fun _ t => rc_W Y sh rf σ' t.heap) (rc_A sh sz)) 0 0 (rc_A sh sz) := by
  refine Met.ofW (cc := cX2_keepAside) (maxL := 1) (ret := none) (by decide +kernel) rfl ?_
  intro p e s m args below meth c s₁ B hml hv
  obtain ⟨rfl, hsz, hW, hK, hE⟩ := hv
  have hx := B.exec
  have hb := B.bytes
  have hr := B.returns
  have hts : ∀ w ∈ rc_big, w.before _ s = true := fun w h => atoms_spec (ws := Cond.code yX2_keepAside cX2_keepAside 1 none :: rc_big) B.pre w (List.mem_cons_of_mem _ h)
  have hown : s.vm.findClass RX2 = some m.cls := findClass_of_methodNamed B.named
  have hlocks := B.notSynchronized
  clear B
  subst hsz
  have hS : va_S (rc_A sh s.heap.size) s.heap s.heap [] := va_S.rf
  have hl := lv_entry ([.ref a0]) (n := 1) (Nat.le_of_ble_eq_true rfl)
  rw [lg_entry_eq]
  generalize (lg_sl ([.ref a0]) ++ List.replicate (1 - (lg_sl ([.ref a0])).length) Slot.unset).toArray = ls at hl ⊢
  have hl : lv_has ls 1 [(0, .ref a0)] := hl
  unfold f_X2_keepAside at hm
  refine lv_aload_n hx hb dX2_keepAside_0 rfl (lv_at hl 0 rfl) ?_
  refine rg_3_2 hx hb hts hown hK hW h0 tw_2_8 dX2_keepAside_1 ?_
  refine lv_bipush (v := 8) hx hb dX2_keepAside_4 (by decide) ?_
  refine lv_icmp_ge (tgt := 22) hx hb dX2_keepAside_6 (by decide) (fun c_4 => ?_) (fun c_4 => ?_)
  · replace hm := rc_t hm c_4
    refine lv_aload_n hx hb dX2_keepAside_22 rfl (lv_at hl 0 rfl) ?_
    refine lv_aload_n hx hb dX2_keepAside_23 rfl (lv_at hl 0 rfl) ?_
    refine rg_3_1 hx hb hts hown hK hW h0 tw_2_7 dX2_keepAside_24 ?_
    refine lv_iconst (v := 1) hx hb dX2_keepAside_27 (by decide) ?_
    refine lv_iadd hx hb dX2_keepAside_28 ?_
    refine lv_bipush (v := 9) hx hb dX2_keepAside_29 (by decide) ?_
    obtain ⟨w_1, σ_1, hc_1, hm0⟩ := rc_bd_inv hm
    clear hm
    refine rc_ci hS (va_runS (As := [.int ((σ a0 1) + (1 : Int32)), .int (9 : Int32)]) (rest := [.ref a0]) ⟨hx, hb, hml, hown, hts⟩ (k_J9_floorMod_7cf53 l hT ((σ a0 1) + (1 : Int32)) (9 : Int32)  s.heap.size _ _ _ hc_1) (va_cwS 2 hts (rc_gS tw_3_148 tw_3_149 tw_1_22 tw_3_150) rfl rfl rfl (by decide +kernel) ⟨Nat.le_of_ble_eq_true rfl, Nat.le_of_ble_eq_true rfl⟩) (rc_preS hT hW hK hE hS [.int ((σ a0 1) + (1 : Int32)), .int (9 : Int32)]) rfl rfl hl.1 rfl (lv_room (Nat.le_of_ble_eq_true rfl)) dX2_keepAside_31 ⟨Nat.le_of_ble_eq_true rfl, Nat.le_of_ble_eq_true rfl⟩) (fun H locs hW hS => ?_)
    have hm := hm0
    clear hm0 hc_1
    refine rp_3_1 hx hb hts hown hK hW hS h0 tw_2_7 dX2_keepAside_34 (fun σ_2 H locs eσ hW hS => ?_)
    replace hm := rc_lt_at hm eσ
    clear eσ
    exact rc_evret hx hb hr hlocks hW hS (Nat.le_of_ble_eq_true rfl) (Nat.le_of_ble_eq_true rfl) hm dX2_keepAside_37
  · replace hm := rc_f hm c_4
    refine lv_aload_n hx hb dX2_keepAside_9 rfl (lv_at hl 0 rfl) ?_
    refine lv_dup hx hb dX2_keepAside_10 rfl ?_
    refine rg_3_2 hx hb hts hown hK hW h0 tw_2_8 dX2_keepAside_11 ?_
    refine lv_iconst (v := 1) hx hb dX2_keepAside_14 (by decide) ?_
    refine lv_iadd hx hb dX2_keepAside_15 ?_
    refine rp_3_2 hx hb hts hown hK hW hS h0 tw_2_8 dX2_keepAside_16 (fun σ_3 H locs eσ hW hS => ?_)
    replace hm := rc_lt_at hm eσ
    clear eσ
    refine lv_goto (tgt := 37) hx hb dX2_keepAside_19 (by decide) ?_
    exact rc_evret hx hb hr hlocks hW hS (Nat.le_of_ble_eq_true rfl) (Nat.le_of_ble_eq_true rfl) hm dX2_keepAside_37
set_option maxHeartbeats 4000000 in
set_option maxRecDepth 100000 in
theorem k_X2_takeLatest (l : Launch) {Y : rc_Y} {sh : Nat → Nat} {rf : rc_F} (hT : rc_T Y sh rf) (a0 : Nat) (h0 : sh a0 = 3) (sz : Nat) (σ σ' : rc_S) (r : Nat) (hm : f_X2_takeLatest rf a0 σ = some (r, σ')) : Met l yX2_takeLatest (Cond.code yX2_takeLatest cX2_takeLatest 1 (some (.object "RainCellar$Cellar")) :: rc_big) ({ frames := 2, cells := 0, slots := 0, locals := 42 } : Room) (rc_P Y sh rf σ sz [.ref a0]) (va_Qr (fun (_ : Unit) => True) (fun _ a t => (a = r ∧ sh a = 2) ∧ rc_W Y sh rf σ' t.heap) (rc_A sh sz)) 0 0 (rc_A sh sz) := by
  refine Met.ofW (cc := cX2_takeLatest) (maxL := 1) (ret := (some (.object "RainCellar$Cellar"))) (by decide +kernel) rfl ?_
  intro p e s m args below meth c s₁ B hml hv
  obtain ⟨rfl, hsz, hW, hK, hE⟩ := hv
  have hx := B.exec
  have hb := B.bytes
  have hr := B.returns
  have hts : ∀ w ∈ rc_big, w.before _ s = true := fun w h => atoms_spec (ws := Cond.code yX2_takeLatest cX2_takeLatest 1 (some (.object "RainCellar$Cellar")) :: rc_big) B.pre w (List.mem_cons_of_mem _ h)
  have hown : s.vm.findClass RX2 = some m.cls := findClass_of_methodNamed B.named
  have hlocks := B.notSynchronized
  clear B
  subst hsz
  have hS : va_S (rc_A sh s.heap.size) s.heap s.heap [] := va_S.rf
  have hl := lv_entry ([.ref a0]) (n := 1) (Nat.le_of_ble_eq_true rfl)
  rw [lg_entry_eq]
  generalize (lg_sl ([.ref a0]) ++ List.replicate (1 - (lg_sl ([.ref a0])).length) Slot.unset).toArray = ls at hl ⊢
  have hl : lv_has ls 1 [(0, .ref a0)] := hl
  unfold f_X2_takeLatest at hm
  refine lv_aload_n hx hb dX2_takeLatest_0 rfl (lv_at hl 0 rfl) ?_
  refine lv_dup hx hb dX2_takeLatest_1 rfl ?_
  refine rg_3_2 hx hb hts hown hK hW h0 tw_2_8 dX2_takeLatest_2 ?_
  refine lv_iconst (v := 1) hx hb dX2_takeLatest_5 (by decide) ?_
  refine lv_isub hx hb dX2_takeLatest_6 ?_
  refine rp_3_2 hx hb hts hown hK hW hS h0 tw_2_8 dX2_takeLatest_7 (fun σ_1 H locs eσ hW hS => ?_)
  replace hm := rc_lt_at hm eσ
  clear eσ
  refine lv_aload_n hx hb dX2_takeLatest_10 rfl (lv_at hl 0 rfl) ?_
  obtain ⟨w_2, σ_2, hc_2, hm0⟩ := rc_bd_inv hm
  clear hm
  refine rc_cr hS (va_runV (As := []) (rest := []) ⟨hx, hb, hml, hown, hts⟩ (k_X2_aside l hT a0 h0 H.size _ _ _ hc_2) (cwV 0 hts (rc_gV tw_3_144 tw_3_145 tw_3_146 tw_1_8 tw_3_147) rfl rfl rfl (by decide +kernel) ⟨Nat.le_of_ble_eq_true rfl, Nat.le_of_ble_eq_true rfl⟩) (rc_preV hT hW hK hE hS h0 (by decide) rfl (q := (RX2, TX2, 3)) rfl []) rfl rfl hl.1 rfl (lv_room (Nat.le_of_ble_eq_true rfl)) dX2_takeLatest_11 ⟨Nat.le_of_ble_eq_true rfl, Nat.le_of_ble_eq_true rfl⟩) (fun H locs hr_2 hW hS => ?_)
  have hm := hm0
  clear hm0 hc_2
  exact rc_earet hx hb hr hlocks hW hS (Nat.le_of_ble_eq_true rfl) (Nat.le_of_ble_eq_true rfl) hr_2 hm dX2_takeLatest_14
set_option maxHeartbeats 4000000 in
set_option maxRecDepth 100000 in
theorem k_X2_forget (l : Launch) {Y : rc_Y} {sh : Nat → Nat} {rf : rc_F} (hT : rc_T Y sh rf) (a0 : Nat) (h0 : sh a0 = 3) (sz : Nat) (σ σ' : rc_S) (r : Unit) (hm : f_X2_forget rf a0 σ = some (r, σ')) : Met l yX2_forget (Cond.code yX2_forget cX2_forget 1 none :: rc_big) ({ frames := 0, cells := 0, slots := 0, locals := 0 } : Room) (rc_P Y sh rf σ sz [.ref a0]) (va_Qv (fun (_ : Unit) => True) (fun _ t => rc_W Y sh rf σ' t.heap) (rc_A sh sz)) 0 0 (rc_A sh sz) := by
  refine Met.ofW (cc := cX2_forget) (maxL := 1) (ret := none) (by decide +kernel) rfl ?_
  intro p e s m args below meth c s₁ B hml hv
  obtain ⟨rfl, hsz, hW, hK, hE⟩ := hv
  have hx := B.exec
  have hb := B.bytes
  have hr := B.returns
  have hts : ∀ w ∈ rc_big, w.before _ s = true := fun w h => atoms_spec (ws := Cond.code yX2_forget cX2_forget 1 none :: rc_big) B.pre w (List.mem_cons_of_mem _ h)
  have hown : s.vm.findClass RX2 = some m.cls := findClass_of_methodNamed B.named
  have hlocks := B.notSynchronized
  clear B
  subst hsz
  have hS : va_S (rc_A sh s.heap.size) s.heap s.heap [] := va_S.rf
  have hl := lv_entry ([.ref a0]) (n := 1) (Nat.le_of_ble_eq_true rfl)
  rw [lg_entry_eq]
  generalize (lg_sl ([.ref a0]) ++ List.replicate (1 - (lg_sl ([.ref a0])).length) Slot.unset).toArray = ls at hl ⊢
  have hl : lv_has ls 1 [(0, .ref a0)] := hl
  unfold f_X2_forget at hm
  refine lv_aload_n hx hb dX2_forget_0 rfl (lv_at hl 0 rfl) ?_
  refine lv_iconst (v := 0) hx hb dX2_forget_1 (by decide) ?_
  refine rp_3_2 hx hb hts hown hK hW hS h0 tw_2_8 dX2_forget_2 (fun σ_1 H locs eσ hW hS => ?_)
  replace hm := rc_lt_at hm eσ
  clear eσ
  exact rc_evret hx hb hr hlocks hW hS (Nat.le_of_ble_eq_true rfl) (Nat.le_of_ble_eq_true rfl) hm dX2_forget_5
set_option maxHeartbeats 4000000 in
set_option maxRecDepth 100000 in
theorem k_X3_copy (l : Launch) {Y : rc_Y} {sh : Nat → Nat} {rf : rc_F} (hT : rc_T Y sh rf) (a0 : Nat) (q1 : Nat) (h0 : sh a0 = 4) (hq1 : sh q1 = 4) (sz : Nat) (σ σ' : rc_S) (r : Unit) (hm : f_X3_copy rf a0 q1 σ = some (r, σ')) : Met l yX3_copy (Cond.code yX3_copy cX3_copy 3 none :: rc_big) ({ frames := 0, cells := 0, slots := 0, locals := 0 } : Room) (rc_P Y sh rf σ sz [.ref a0, .ref q1]) (va_Qv (fun (_ : Unit) => True) (fun _ t => rc_W Y sh rf σ' t.heap) (rc_A sh sz)) 0 0 (rc_A sh sz) := by
  refine Met.ofW (cc := cX3_copy) (maxL := 3) (ret := none) (by decide +kernel) rfl ?_
  intro p e s m args below meth c s₁ B hml hv
  obtain ⟨rfl, hsz, hW, hK, hE⟩ := hv
  have hx := B.exec
  have hb := B.bytes
  have hr := B.returns
  have hts : ∀ w ∈ rc_big, w.before _ s = true := fun w h => atoms_spec (ws := Cond.code yX3_copy cX3_copy 3 none :: rc_big) B.pre w (List.mem_cons_of_mem _ h)
  have hown : s.vm.findClass RX3 = some m.cls := findClass_of_methodNamed B.named
  have hlocks := B.notSynchronized
  clear B
  subst hsz
  have hS : va_S (rc_A sh s.heap.size) s.heap s.heap [] := va_S.rf
  have hl := lv_entry ([.ref a0, .ref q1]) (n := 3) (Nat.le_of_ble_eq_true rfl)
  rw [lg_entry_eq]
  generalize (lg_sl ([.ref a0, .ref q1]) ++ List.replicate (3 - (lg_sl ([.ref a0, .ref q1])).length) Slot.unset).toArray = ls at hl ⊢
  have hl : lv_has ls 3 [(0, .ref a0), (1, .ref q1)] := hl
  have lp_2 : ∀ (r1 : Nat) (hr1 : sh r1 = 4) (K : Int32 → rc_S → Option (Unit × rc_S)) (hKK : ∀ (v2 : Int32) (σ : rc_S) (H : Heap) (locs : List Loc) (ls : Array Slot), K v2 σ = some (r, σ') → rc_W Y sh rf σ H → va_S (rc_A sh s.heap.size) s.heap H locs → lv_has ls 3 [(0, .ref a0), (1, .ref r1)] → W p l e (headSpec (Cond.code yX3_copy cX3_copy 3 none :: rc_big) ({ frames := 0, cells := 0, slots := 0, locals := 0 } : Room)).room s m (([.ref a0, .ref q1] : List Value).toArray) below meth c H locs 0 0 (MQ below (va_Qv (fun (_ : Unit) => True) (fun _ t => rc_W Y sh rf σ' t.heap) (rc_A sh s.heap.size)) ([.ref a0, .ref q1] : List Value).toArray s 0 0 (rc_A sh s.heap.size)) (F0 m 37 ls [])) (n : Nat) (v2 : Int32) (σ : rc_S) (H : Heap) (locs : List Loc) (ls : Array Slot), f_X3_copy_2 rf a0 r1 K n v2 σ = some (r, σ') → rc_W Y sh rf σ H → va_S (rc_A sh s.heap.size) s.heap H locs → lv_has ls 3 [(0, .ref a0), (1, .ref r1), (2, .int v2)] → W p l e (headSpec (Cond.code yX3_copy cX3_copy 3 none :: rc_big) ({ frames := 0, cells := 0, slots := 0, locals := 0 } : Room)).room s m (([.ref a0, .ref q1] : List Value).toArray) below meth c H locs 0 0 (MQ below (va_Qv (fun (_ : Unit) => True) (fun _ t => rc_W Y sh rf σ' t.heap) (rc_A sh s.heap.size)) ([.ref a0, .ref q1] : List Value).toArray s 0 0 (rc_A sh s.heap.size)) (F0 m 2 ls []) := by
    intro r1 hr1 K hKK n
    induction n with
    | zero =>
      intro v2 σ H locs ls hm
      rw [f_X3_copy_2] at hm
      cases hm
    | succ n ih =>
      intro v2 σ H locs ls hm hW hS hl
      rw [f_X3_copy_2] at hm
      refine lv_iload_n hx hb dX3_copy_2 rfl (lv_at hl 2 rfl) ?_
      refine lv_iconst (v := 4) hx hb dX3_copy_3 (by decide) ?_
      refine lv_icmp_ge (tgt := 37) hx hb dX3_copy_4 (by decide) (fun c_8 => ?_) (fun c_8 => ?_)
      · replace hm := rc_t hm c_8
        exact hKK v2 σ _ _ _ hm hW hS (lv_sub hl [0, 1] rfl)
      · replace hm := rc_f hm c_8
        refine lv_aload_n hx hb dX3_copy_7 rfl (lv_at hl 0 rfl) ?_
        refine rg_4_0 hx hb hts hown hK hW h0 tw_1_62 dX3_copy_8 ?_
        refine lv_iload_n hx hb dX3_copy_11 rfl (lv_at hl 2 rfl) ?_
        refine lv_aload_n hx hb dX3_copy_12 rfl (lv_at hl 1 rfl) ?_
        refine rg_4_0 hx hb hts hown hK hW hr1 tw_1_62 dX3_copy_13 ?_
        refine lv_iload_n hx hb dX3_copy_16 rfl (lv_at hl 2 rfl) ?_
        have hi_1 := (rc_ix hm).1
        replace hm := (rc_ix hm).2
        refine rc_ialdj (j := v2.toNatClampNeg) hx hb hK hW (rc_t_4_0 hT hr1) (by decide) rfl hi_1 rfl dX3_copy_17 ?_
        have hi_2 := (rc_ix hm).1
        replace hm := (rc_ix hm).2
        refine rc_iastj (j := v2.toNatClampNeg) hx hb hK hW hS (rc_t_4_0 hT h0) (by decide) (fun _ => rfl) hi_2 rfl dX3_copy_18 (fun σ_3 H locs eσ hW hS => ?_)
        replace hm := rc_lt_at hm eσ
        clear eσ
        refine lv_aload_n hx hb dX3_copy_19 rfl (lv_at hl 0 rfl) ?_
        refine rg_4_1 hx hb hts hown hK hW h0 tw_1_64 dX3_copy_20 ?_
        refine lv_iload_n hx hb dX3_copy_23 rfl (lv_at hl 2 rfl) ?_
        refine lv_aload_n hx hb dX3_copy_24 rfl (lv_at hl 1 rfl) ?_
        refine rg_4_1 hx hb hts hown hK hW hr1 tw_1_64 dX3_copy_25 ?_
        refine lv_iload_n hx hb dX3_copy_28 rfl (lv_at hl 2 rfl) ?_
        have hi_4 := (rc_ix hm).1
        replace hm := (rc_ix hm).2
        refine rc_zaldj (j := v2.toNatClampNeg) hx hb hK hW (rc_t_4_1 hT hr1) (by decide) rfl hi_4 rfl dX3_copy_29 ?_
        have hi_5 := (rc_ix hm).1
        replace hm := (rc_ix hm).2
        refine rc_zastj (j := v2.toNatClampNeg) hx hb hK hW hS (rc_t_4_1 hT h0) (by decide) (fun _ => rfl) hi_5 rfl dX3_copy_30 (fun σ_6 H locs eσ hW hS => ?_)
        replace hm := rc_lt_at hm eσ
        clear eσ
        obtain ⟨v2_7, ev⟩ : ∃ y : Int32, y = (v2 + 1) := ⟨_, rfl⟩
        replace hm := rc_lt_at hm ev
        refine lv_iinc (v := v2_7) (lv' := [(2, .int v2_7), (0, .ref a0), (1, .ref r1)]) hx hb dX3_copy_31 hl (k := 2) rfl (by rw [ev]; rfl) (by decide) rfl (fun ls hl => ?_)
        clear ev
        refine lv_goto (tgt := 2) hx hb dX3_copy_34 (by decide) ?_
        exact ih v2_7 σ_6 _ _ _ hm hW hS (lv_sub hl [1, 2, 0] rfl)
  unfold f_X3_copy at hm
  refine lv_iconst (v := 0) hx hb dX3_copy_0 (by decide) ?_
  refine lv_istore_n (lv' := [(2, .int (0 : Int32)), (0, .ref a0), (1, .ref q1)]) hx hb dX3_copy_1 rfl hl (by decide) rfl (fun ls hl => ?_)
  refine lp_2 q1 hq1 _ (fun v2_9 σ_10 H locs ls hm hW hS hl => ?_) rc_fu (0 : Int32) σ _ _ _ hm hW hS (lv_sub hl [1, 2, 0] rfl)
  refine lv_aload_n hx hb dX3_copy_37 rfl (lv_at hl 0 rfl) ?_
  refine lv_aload_n hx hb dX3_copy_38 rfl (lv_at hl 1 rfl) ?_
  refine rg_4_2 hx hb hts hown hK hW hq1 tw_1_66 dX3_copy_39 ?_
  refine rp_4_2 hx hb hts hown hK hW hS h0 tw_1_66 dX3_copy_42 (fun σ_11 H locs eσ hW hS => ?_)
  replace hm := rc_lt_at hm eσ
  clear eσ
  exact rc_evret hx hb hr hlocks hW hS (Nat.le_of_ble_eq_true rfl) (Nat.le_of_ble_eq_true rfl) hm dX3_copy_45
set_option maxHeartbeats 4000000 in
set_option maxRecDepth 100000 in
theorem k_X3_has (l : Launch) {Y : rc_Y} {sh : Nat → Nat} {rf : rc_F} (hT : rc_T Y sh rf) (a0 : Nat) (u1 : Int32) (h0 : sh a0 = 4) (sz : Nat) (σ σ' : rc_S) (r : Int32) (hm : f_X3_has rf a0 u1 σ = some (r, σ')) : Met l yX3_has (Cond.code yX3_has cX3_has 2 (some .boolean) :: rc_big) ({ frames := 0, cells := 0, slots := 0, locals := 0 } : Room) (rc_P Y sh rf σ sz [.ref a0, .int u1]) (va_Qi (fun (r' : Int32) (_ : Unit) => r' = r) (fun _ t => rc_W Y sh rf σ' t.heap) (rc_A sh sz)) 0 0 (rc_A sh sz) := by
  refine Met.ofW (cc := cX3_has) (maxL := 2) (ret := (some .boolean)) (by decide +kernel) rfl ?_
  intro p e s m args below meth c s₁ B hml hv
  obtain ⟨rfl, hsz, hW, hK, hE⟩ := hv
  have hx := B.exec
  have hb := B.bytes
  have hr := B.returns
  have hts : ∀ w ∈ rc_big, w.before _ s = true := fun w h => atoms_spec (ws := Cond.code yX3_has cX3_has 2 (some .boolean) :: rc_big) B.pre w (List.mem_cons_of_mem _ h)
  have hown : s.vm.findClass RX3 = some m.cls := findClass_of_methodNamed B.named
  have hlocks := B.notSynchronized
  clear B
  subst hsz
  have hS : va_S (rc_A sh s.heap.size) s.heap s.heap [] := va_S.rf
  have hl := lv_entry ([.ref a0, .int u1]) (n := 2) (Nat.le_of_ble_eq_true rfl)
  rw [lg_entry_eq]
  generalize (lg_sl ([.ref a0, .int u1]) ++ List.replicate (2 - (lg_sl ([.ref a0, .int u1])).length) Slot.unset).toArray = ls at hl ⊢
  have hl : lv_has ls 2 [(0, .ref a0), (1, .int u1)] := hl
  unfold f_X3_has at hm
  refine lv_iload_n hx hb dX3_has_0 rfl (lv_at hl 1 rfl) ?_
  refine lv_if_lt (tgt := 16) hx hb dX3_has_1 (by decide) (fun c_2 => ?_) (fun c_2 => ?_)
  · replace hm := rc_t hm c_2
    refine lv_iconst (v := 0) hx hb dX3_has_16 (by decide) ?_
    exact rc_ezret hx hb hr hlocks hW hS (Nat.le_of_ble_eq_true rfl) (Nat.le_of_ble_eq_true rfl) rfl hm dX3_has_17
  · replace hm := rc_f hm c_2
    refine lv_iload_n hx hb dX3_has_4 rfl (lv_at hl 1 rfl) ?_
    refine lv_aload_n hx hb dX3_has_5 rfl (lv_at hl 0 rfl) ?_
    refine rg_4_2 hx hb hts hown hK hW h0 tw_1_66 dX3_has_6 ?_
    refine lv_icmp_ge (tgt := 16) hx hb dX3_has_9 (by decide) (fun c_1 => ?_) (fun c_1 => ?_)
    · replace hm := rc_t hm c_1
      refine lv_iconst (v := 0) hx hb dX3_has_16 (by decide) ?_
      exact rc_ezret hx hb hr hlocks hW hS (Nat.le_of_ble_eq_true rfl) (Nat.le_of_ble_eq_true rfl) rfl hm dX3_has_17
    · replace hm := rc_f hm c_1
      refine lv_iconst (v := 1) hx hb dX3_has_12 (by decide) ?_
      refine lv_goto (tgt := 17) hx hb dX3_has_13 (by decide) ?_
      exact rc_ezret hx hb hr hlocks hW hS (Nat.le_of_ble_eq_true rfl) (Nat.le_of_ble_eq_true rfl) rfl hm dX3_has_17
set_option maxHeartbeats 4000000 in
set_option maxRecDepth 100000 in
theorem k_X3_add (l : Launch) {Y : rc_Y} {sh : Nat → Nat} {rf : rc_F} (hT : rc_T Y sh rf) (a0 : Nat) (u1 : Int32) (u2 : Int32) (h0 : sh a0 = 4) (sz : Nat) (σ σ' : rc_S) (r : Unit) (hm : f_X3_add rf a0 u1 u2 σ = some (r, σ')) : Met l yX3_add (Cond.code yX3_add cX3_add 3 none :: rc_big) ({ frames := 0, cells := 0, slots := 0, locals := 0 } : Room) (rc_P Y sh rf σ sz [.ref a0, .int u1, .int u2]) (va_Qv (fun (_ : Unit) => True) (fun _ t => rc_W Y sh rf σ' t.heap) (rc_A sh sz)) 0 0 (rc_A sh sz) := by
  refine Met.ofW (cc := cX3_add) (maxL := 3) (ret := none) (by decide +kernel) rfl ?_
  intro p e s m args below meth c s₁ B hml hv
  obtain ⟨rfl, hsz, hW, hK, hE⟩ := hv
  have hx := B.exec
  have hb := B.bytes
  have hr := B.returns
  have hts : ∀ w ∈ rc_big, w.before _ s = true := fun w h => atoms_spec (ws := Cond.code yX3_add cX3_add 3 none :: rc_big) B.pre w (List.mem_cons_of_mem _ h)
  have hown : s.vm.findClass RX3 = some m.cls := findClass_of_methodNamed B.named
  have hlocks := B.notSynchronized
  clear B
  subst hsz
  have hS : va_S (rc_A sh s.heap.size) s.heap s.heap [] := va_S.rf
  have hl := lv_entry ([.ref a0, .int u1, .int u2]) (n := 3) (Nat.le_of_ble_eq_true rfl)
  rw [lg_entry_eq]
  generalize (lg_sl ([.ref a0, .int u1, .int u2]) ++ List.replicate (3 - (lg_sl ([.ref a0, .int u1, .int u2])).length) Slot.unset).toArray = ls at hl ⊢
  have hl : lv_has ls 3 [(0, .ref a0), (1, .int u1), (2, .int u2)] := hl
  unfold f_X3_add at hm
  refine lv_aload_n hx hb dX3_add_0 rfl (lv_at hl 0 rfl) ?_
  refine rg_4_0 hx hb hts hown hK hW h0 tw_1_62 dX3_add_1 ?_
  refine lv_aload_n hx hb dX3_add_4 rfl (lv_at hl 0 rfl) ?_
  refine rg_4_2 hx hb hts hown hK hW h0 tw_1_66 dX3_add_5 ?_
  refine lv_iload_n hx hb dX3_add_8 rfl (lv_at hl 1 rfl) ?_
  have hi_1 := (rc_ix hm).1
  replace hm := (rc_ix hm).2
  refine rc_iastj (j := (σ a0 2).toNatClampNeg) hx hb hK hW hS (rc_t_4_0 hT h0) (by decide) (fun _ => rfl) hi_1 rfl dX3_add_9 (fun σ_2 H locs eσ hW hS => ?_)
  replace hm := rc_lt_at hm eσ
  clear eσ
  refine lv_aload_n hx hb dX3_add_10 rfl (lv_at hl 0 rfl) ?_
  refine rg_4_1 hx hb hts hown hK hW h0 tw_1_64 dX3_add_11 ?_
  refine lv_aload_n hx hb dX3_add_14 rfl (lv_at hl 0 rfl) ?_
  refine rg_4_2 hx hb hts hown hK hW h0 tw_1_66 dX3_add_15 ?_
  refine lv_iload_n hx hb dX3_add_18 rfl (lv_at hl 2 rfl) ?_
  have hi_3 := (rc_ix hm).1
  replace hm := (rc_ix hm).2
  refine rc_zastj (j := (σ_2 a0 2).toNatClampNeg) hx hb hK hW hS (rc_t_4_1 hT h0) (by decide) (fun _ => rfl) hi_3 rfl dX3_add_19 (fun σ_4 H locs eσ hW hS => ?_)
  replace hm := rc_lt_at hm eσ
  clear eσ
  refine lv_aload_n hx hb dX3_add_20 rfl (lv_at hl 0 rfl) ?_
  refine lv_dup hx hb dX3_add_21 rfl ?_
  refine rg_4_2 hx hb hts hown hK hW h0 tw_1_66 dX3_add_22 ?_
  refine lv_iconst (v := 1) hx hb dX3_add_25 (by decide) ?_
  refine lv_iadd hx hb dX3_add_26 ?_
  refine rp_4_2 hx hb hts hown hK hW hS h0 tw_1_66 dX3_add_27 (fun σ_5 H locs eσ hW hS => ?_)
  replace hm := rc_lt_at hm eσ
  clear eσ
  exact rc_evret hx hb hr hlocks hW hS (Nat.le_of_ble_eq_true rfl) (Nat.le_of_ble_eq_true rfl) hm dX3_add_30
set_option maxHeartbeats 4000000 in
set_option maxRecDepth 100000 in
theorem k_X3_remove (l : Launch) {Y : rc_Y} {sh : Nat → Nat} {rf : rc_F} (hT : rc_T Y sh rf) (a0 : Nat) (u1 : Int32) (h0 : sh a0 = 4) (sz : Nat) (σ σ' : rc_S) (r : Unit) (hm : f_X3_remove rf a0 u1 σ = some (r, σ')) : Met l yX3_remove (Cond.code yX3_remove cX3_remove 3 none :: rc_big) ({ frames := 0, cells := 0, slots := 0, locals := 0 } : Room) (rc_P Y sh rf σ sz [.ref a0, .int u1]) (va_Qv (fun (_ : Unit) => True) (fun _ t => rc_W Y sh rf σ' t.heap) (rc_A sh sz)) 0 0 (rc_A sh sz) := by
  refine Met.ofW (cc := cX3_remove) (maxL := 3) (ret := none) (by decide +kernel) rfl ?_
  intro p e s m args below meth c s₁ B hml hv
  obtain ⟨rfl, hsz, hW, hK, hE⟩ := hv
  have hx := B.exec
  have hb := B.bytes
  have hr := B.returns
  have hts : ∀ w ∈ rc_big, w.before _ s = true := fun w h => atoms_spec (ws := Cond.code yX3_remove cX3_remove 3 none :: rc_big) B.pre w (List.mem_cons_of_mem _ h)
  have hown : s.vm.findClass RX3 = some m.cls := findClass_of_methodNamed B.named
  have hlocks := B.notSynchronized
  clear B
  subst hsz
  have hS : va_S (rc_A sh s.heap.size) s.heap s.heap [] := va_S.rf
  have hl := lv_entry ([.ref a0, .int u1]) (n := 3) (Nat.le_of_ble_eq_true rfl)
  rw [lg_entry_eq]
  generalize (lg_sl ([.ref a0, .int u1]) ++ List.replicate (3 - (lg_sl ([.ref a0, .int u1])).length) Slot.unset).toArray = ls at hl ⊢
  have hl : lv_has ls 3 [(0, .ref a0), (1, .int u1)] := hl
  have lp_2 : ∀ (K : Int32 → rc_S → Option (Unit × rc_S)) (hKK : ∀ (v2 : Int32) (σ : rc_S) (H : Heap) (locs : List Loc) (ls : Array Slot), K v2 σ = some (r, σ') → rc_W Y sh rf σ H → va_S (rc_A sh s.heap.size) s.heap H locs → lv_has ls 3 [(0, .ref a0)] → W p l e (headSpec (Cond.code yX3_remove cX3_remove 3 none :: rc_big) ({ frames := 0, cells := 0, slots := 0, locals := 0 } : Room)).room s m (([.ref a0, .int u1] : List Value).toArray) below meth c H locs 0 0 (MQ below (va_Qv (fun (_ : Unit) => True) (fun _ t => rc_W Y sh rf σ' t.heap) (rc_A sh s.heap.size)) ([.ref a0, .int u1] : List Value).toArray s 0 0 (rc_A sh s.heap.size)) (F0 m 46 ls [])) (n : Nat) (v2 : Int32) (σ : rc_S) (H : Heap) (locs : List Loc) (ls : Array Slot), f_X3_remove_2 rf a0 K n v2 σ = some (r, σ') → rc_W Y sh rf σ H → va_S (rc_A sh s.heap.size) s.heap H locs → lv_has ls 3 [(0, .ref a0), (2, .int v2)] → W p l e (headSpec (Cond.code yX3_remove cX3_remove 3 none :: rc_big) ({ frames := 0, cells := 0, slots := 0, locals := 0 } : Room)).room s m (([.ref a0, .int u1] : List Value).toArray) below meth c H locs 0 0 (MQ below (va_Qv (fun (_ : Unit) => True) (fun _ t => rc_W Y sh rf σ' t.heap) (rc_A sh s.heap.size)) ([.ref a0, .int u1] : List Value).toArray s 0 0 (rc_A sh s.heap.size)) (F0 m 2 ls []) := by
    intro  K hKK n
    induction n with
    | zero =>
      intro v2 σ H locs ls hm
      rw [f_X3_remove_2] at hm
      cases hm
    | succ n ih =>
      intro v2 σ H locs ls hm hW hS hl
      rw [f_X3_remove_2] at hm
      refine lv_iload_n hx hb dX3_remove_2 rfl (lv_at hl 1 rfl) ?_
      refine lv_iconst (v := 1) hx hb dX3_remove_3 (by decide) ?_
      refine lv_iadd hx hb dX3_remove_4 ?_
      refine lv_aload_n hx hb dX3_remove_5 rfl (lv_at hl 0 rfl) ?_
      refine rg_4_2 hx hb hts hown hK hW h0 tw_1_66 dX3_remove_6 ?_
      refine lv_icmp_ge (tgt := 46) hx hb dX3_remove_9 (by decide) (fun c_8 => ?_) (fun c_8 => ?_)
      · replace hm := rc_t hm c_8
        exact hKK v2 σ _ _ _ hm hW hS (lv_sub hl [0] rfl)
      · replace hm := rc_f hm c_8
        refine lv_aload_n hx hb dX3_remove_12 rfl (lv_at hl 0 rfl) ?_
        refine rg_4_0 hx hb hts hown hK hW h0 tw_1_62 dX3_remove_13 ?_
        refine lv_iload_n hx hb dX3_remove_16 rfl (lv_at hl 1 rfl) ?_
        refine lv_aload_n hx hb dX3_remove_17 rfl (lv_at hl 0 rfl) ?_
        refine rg_4_0 hx hb hts hown hK hW h0 tw_1_62 dX3_remove_18 ?_
        refine lv_iload_n hx hb dX3_remove_21 rfl (lv_at hl 1 rfl) ?_
        refine lv_iconst (v := 1) hx hb dX3_remove_22 (by decide) ?_
        refine lv_iadd hx hb dX3_remove_23 ?_
        have hi_1 := (rc_ix hm).1
        replace hm := (rc_ix hm).2
        refine rc_ialdj (j := (v2 + (1 : Int32)).toNatClampNeg) hx hb hK hW (rc_t_4_0 hT h0) (by decide) rfl hi_1 rfl dX3_remove_24 ?_
        have hi_2 := (rc_ix hm).1
        replace hm := (rc_ix hm).2
        refine rc_iastj (j := v2.toNatClampNeg) hx hb hK hW hS (rc_t_4_0 hT h0) (by decide) (fun _ => rfl) hi_2 rfl dX3_remove_25 (fun σ_3 H locs eσ hW hS => ?_)
        replace hm := rc_lt_at hm eσ
        clear eσ
        refine lv_aload_n hx hb dX3_remove_26 rfl (lv_at hl 0 rfl) ?_
        refine rg_4_1 hx hb hts hown hK hW h0 tw_1_64 dX3_remove_27 ?_
        refine lv_iload_n hx hb dX3_remove_30 rfl (lv_at hl 1 rfl) ?_
        refine lv_aload_n hx hb dX3_remove_31 rfl (lv_at hl 0 rfl) ?_
        refine rg_4_1 hx hb hts hown hK hW h0 tw_1_64 dX3_remove_32 ?_
        refine lv_iload_n hx hb dX3_remove_35 rfl (lv_at hl 1 rfl) ?_
        refine lv_iconst (v := 1) hx hb dX3_remove_36 (by decide) ?_
        refine lv_iadd hx hb dX3_remove_37 ?_
        have hi_4 := (rc_ix hm).1
        replace hm := (rc_ix hm).2
        refine rc_zaldj (j := (v2 + (1 : Int32)).toNatClampNeg) hx hb hK hW (rc_t_4_1 hT h0) (by decide) rfl hi_4 rfl dX3_remove_38 ?_
        have hi_5 := (rc_ix hm).1
        replace hm := (rc_ix hm).2
        refine rc_zastj (j := v2.toNatClampNeg) hx hb hK hW hS (rc_t_4_1 hT h0) (by decide) (fun _ => rfl) hi_5 rfl dX3_remove_39 (fun σ_6 H locs eσ hW hS => ?_)
        replace hm := rc_lt_at hm eσ
        clear eσ
        obtain ⟨v2_7, ev⟩ : ∃ y : Int32, y = (v2 + 1) := ⟨_, rfl⟩
        replace hm := rc_lt_at hm ev
        refine lv_iinc (v := v2_7) (lv' := [(2, .int v2_7), (0, .ref a0)]) hx hb dX3_remove_40 hl (k := 1) rfl (by rw [ev]; rfl) (by decide) rfl (fun ls hl => ?_)
        clear ev
        refine lv_goto (tgt := 2) hx hb dX3_remove_43 (by decide) ?_
        exact ih v2_7 σ_6 _ _ _ hm hW hS (lv_sub hl [1, 0] rfl)
  unfold f_X3_remove at hm
  refine lv_iload_n hx hb dX3_remove_0 rfl (lv_at hl 1 rfl) ?_
  refine lv_istore_n (lv' := [(2, .int u1), (0, .ref a0), (1, .int u1)]) hx hb dX3_remove_1 rfl hl (by decide) rfl (fun ls hl => ?_)
  refine lp_2 _ (fun v2_9 σ_10 H locs ls hm hW hS hl => ?_) rc_fu u1 σ _ _ _ hm hW hS (lv_sub hl [1, 0] rfl)
  refine lv_aload_n hx hb dX3_remove_46 rfl (lv_at hl 0 rfl) ?_
  refine lv_dup hx hb dX3_remove_47 rfl ?_
  refine rg_4_2 hx hb hts hown hK hW h0 tw_1_66 dX3_remove_48 ?_
  refine lv_iconst (v := 1) hx hb dX3_remove_51 (by decide) ?_
  refine lv_isub hx hb dX3_remove_52 ?_
  refine rp_4_2 hx hb hts hown hK hW hS h0 tw_1_66 dX3_remove_53 (fun σ_11 H locs eσ hW hS => ?_)
  replace hm := rc_lt_at hm eσ
  clear eσ
  exact rc_evret hx hb hr hlocks hW hS (Nat.le_of_ble_eq_true rfl) (Nat.le_of_ble_eq_true rfl) hm dX3_remove_56
set_option maxHeartbeats 4000000 in
set_option maxRecDepth 100000 in
theorem k_X3_mildPalate (l : Launch) {Y : rc_Y} {sh : Nat → Nat} {rf : rc_F} (hT : rc_T Y sh rf) (a0 : Nat) (u1 : Int32) (h0 : sh a0 = 4) (sz : Nat) (σ σ' : rc_S) (r : Int32) (hm : f_X3_mildPalate rf a0 u1 σ = some (r, σ')) : Met l yX3_mildPalate (Cond.code yX3_mildPalate cX3_mildPalate 2 (some .int) :: rc_big) ({ frames := 0, cells := 0, slots := 0, locals := 0 } : Room) (rc_P Y sh rf σ sz [.ref a0, .int u1]) (va_Qi (fun (r' : Int32) (_ : Unit) => r' = r) (fun _ t => rc_W Y sh rf σ' t.heap) (rc_A sh sz)) 0 0 (rc_A sh sz) := by
  refine Met.ofW (cc := cX3_mildPalate) (maxL := 2) (ret := (some .int)) (by decide +kernel) rfl ?_
  intro p e s m args below meth c s₁ B hml hv
  obtain ⟨rfl, hsz, hW, hK, hE⟩ := hv
  have hx := B.exec
  have hb := B.bytes
  have hr := B.returns
  have hts : ∀ w ∈ rc_big, w.before _ s = true := fun w h => atoms_spec (ws := Cond.code yX3_mildPalate cX3_mildPalate 2 (some .int) :: rc_big) B.pre w (List.mem_cons_of_mem _ h)
  have hown : s.vm.findClass RX3 = some m.cls := findClass_of_methodNamed B.named
  have hlocks := B.notSynchronized
  clear B
  subst hsz
  have hS : va_S (rc_A sh s.heap.size) s.heap s.heap [] := va_S.rf
  have hl := lv_entry ([.ref a0, .int u1]) (n := 2) (Nat.le_of_ble_eq_true rfl)
  rw [lg_entry_eq]
  generalize (lg_sl ([.ref a0, .int u1]) ++ List.replicate (2 - (lg_sl ([.ref a0, .int u1])).length) Slot.unset).toArray = ls at hl ⊢
  have hl : lv_has ls 2 [(0, .ref a0), (1, .int u1)] := hl
  unfold f_X3_mildPalate at hm
  refine lv_aload_n hx hb dX3_mildPalate_0 rfl (lv_at hl 0 rfl) ?_
  refine rg_4_0 hx hb hts hown hK hW h0 tw_1_62 dX3_mildPalate_1 ?_
  refine lv_iload_n hx hb dX3_mildPalate_4 rfl (lv_at hl 1 rfl) ?_
  have hi_1 := (rc_ix hm).1
  replace hm := (rc_ix hm).2
  refine rc_ialdj (j := u1.toNatClampNeg) hx hb hK hW (rc_t_4_0 hT h0) (by decide) rfl hi_1 rfl dX3_mildPalate_5 ?_
  refine lv_aload_n hx hb dX3_mildPalate_6 rfl (lv_at hl 0 rfl) ?_
  refine rg_4_1 hx hb hts hown hK hW h0 tw_1_64 dX3_mildPalate_7 ?_
  refine lv_iload_n hx hb dX3_mildPalate_10 rfl (lv_at hl 1 rfl) ?_
  have hi_2 := (rc_ix hm).1
  replace hm := (rc_ix hm).2
  refine rc_zaldj (j := u1.toNatClampNeg) hx hb hK hW (rc_t_4_1 hT h0) (by decide) rfl hi_2 rfl dX3_mildPalate_11 ?_
  refine lv_if_eq (tgt := 19) hx hb dX3_mildPalate_12 (by decide) (fun c_3 => ?_) (fun c_3 => ?_)
  · replace hm := rc_t hm c_3
    refine lv_iconst (v := 0) hx hb dX3_mildPalate_19 (by decide) ?_
    refine lv_iadd hx hb dX3_mildPalate_20 ?_
    exact rc_eiret hx hb hr hlocks hW hS (Nat.le_of_ble_eq_true rfl) (Nat.le_of_ble_eq_true rfl) hm dX3_mildPalate_21
  · replace hm := rc_f hm c_3
    refine lv_iconst (v := 2) hx hb dX3_mildPalate_15 (by decide) ?_
    refine lv_goto (tgt := 20) hx hb dX3_mildPalate_16 (by decide) ?_
    refine lv_iadd hx hb dX3_mildPalate_20 ?_
    exact rc_eiret hx hb hr hlocks hW hS (Nat.le_of_ble_eq_true rfl) (Nat.le_of_ble_eq_true rfl) hm dX3_mildPalate_21
set_option maxHeartbeats 4000000 in
set_option maxRecDepth 100000 in
theorem k_X3_doesPalateNotice (l : Launch) {Y : rc_Y} {sh : Nat → Nat} {rf : rc_F} (hT : rc_T Y sh rf) (u0 : Int32) (u1 : Int32) (sz : Nat) (σ σ' : rc_S) (r : Int32) (hm : f_X3_doesPalateNotice rf u0 u1 σ = some (r, σ')) : Met l yX3_doesPalateNotice (Cond.code yX3_doesPalateNotice cX3_doesPalateNotice 2 (some .boolean) :: rc_big) ({ frames := 0, cells := 0, slots := 0, locals := 0 } : Room) (rc_P Y sh rf σ sz [.int u0, .int u1]) (va_Qi (fun (r' : Int32) (_ : Unit) => r' = r) (fun _ t => rc_W Y sh rf σ' t.heap) (rc_A sh sz)) 0 0 (rc_A sh sz) := by
  refine Met.ofW (cc := cX3_doesPalateNotice) (maxL := 2) (ret := (some .boolean)) (by decide +kernel) rfl ?_
  intro p e s m args below meth c s₁ B hml hv
  obtain ⟨rfl, hsz, hW, hK, hE⟩ := hv
  have hx := B.exec
  have hb := B.bytes
  have hr := B.returns
  have hts : ∀ w ∈ rc_big, w.before _ s = true := fun w h => atoms_spec (ws := Cond.code yX3_doesPalateNotice cX3_doesPalateNotice 2 (some .boolean) :: rc_big) B.pre w (List.mem_cons_of_mem _ h)
  have hown : s.vm.findClass RX3 = some m.cls := findClass_of_methodNamed B.named
  have hlocks := B.notSynchronized
  clear B
  subst hsz
  have hS : va_S (rc_A sh s.heap.size) s.heap s.heap [] := va_S.rf
  have hl := lv_entry ([.int u0, .int u1]) (n := 2) (Nat.le_of_ble_eq_true rfl)
  rw [lg_entry_eq]
  generalize (lg_sl ([.int u0, .int u1]) ++ List.replicate (2 - (lg_sl ([.int u0, .int u1])).length) Slot.unset).toArray = ls at hl ⊢
  have hl : lv_has ls 2 [(0, .int u0), (1, .int u1)] := hl
  unfold f_X3_doesPalateNotice at hm
  refine lv_iload_n hx hb dX3_doesPalateNotice_0 rfl (lv_at hl 1 rfl) ?_
  refine lv_if_le (tgt := 18) hx hb dX3_doesPalateNotice_1 (by decide) (fun c_2 => ?_) (fun c_2 => ?_)
  · replace hm := rc_t hm c_2
    refine lv_iconst (v := 0) hx hb dX3_doesPalateNotice_18 (by decide) ?_
    exact rc_ezret hx hb hr hlocks hW hS (Nat.le_of_ble_eq_true rfl) (Nat.le_of_ble_eq_true rfl) rfl hm dX3_doesPalateNotice_19
  · replace hm := rc_f hm c_2
    refine lv_iload_n hx hb dX3_doesPalateNotice_4 rfl (lv_at hl 1 rfl) ?_
    refine lv_bipush (v := 50) hx hb dX3_doesPalateNotice_5 (by decide) ?_
    refine lv_iconst (v := 5) hx hb dX3_doesPalateNotice_7 (by decide) ?_
    refine lv_iload_n hx hb dX3_doesPalateNotice_8 rfl (lv_at hl 0 rfl) ?_
    refine lv_imul hx hb dX3_doesPalateNotice_9 ?_
    refine lv_isub hx hb dX3_doesPalateNotice_10 ?_
    refine lv_icmp_le (tgt := 18) hx hb dX3_doesPalateNotice_11 (by decide) (fun c_1 => ?_) (fun c_1 => ?_)
    · replace hm := rc_t hm c_1
      refine lv_iconst (v := 0) hx hb dX3_doesPalateNotice_18 (by decide) ?_
      exact rc_ezret hx hb hr hlocks hW hS (Nat.le_of_ble_eq_true rfl) (Nat.le_of_ble_eq_true rfl) rfl hm dX3_doesPalateNotice_19
    · replace hm := rc_f hm c_1
      refine lv_iconst (v := 1) hx hb dX3_doesPalateNotice_14 (by decide) ?_
      refine lv_goto (tgt := 19) hx hb dX3_doesPalateNotice_15 (by decide) ?_
      exact rc_ezret hx hb hr hlocks hW hS (Nat.le_of_ble_eq_true rfl) (Nat.le_of_ble_eq_true rfl) rfl hm dX3_doesPalateNotice_19
set_option maxHeartbeats 4000000 in
set_option maxRecDepth 100000 in
theorem k_X4_copy (l : Launch) {Y : rc_Y} {sh : Nat → Nat} {rf : rc_F} (hT : rc_T Y sh rf) (a0 : Nat) (q1 : Nat) (h0 : sh a0 = 5) (hq1 : sh q1 = 5) (sz : Nat) (σ σ' : rc_S) (r : Unit) (hm : f_X4_copy rf a0 q1 σ = some (r, σ')) : Met l yX4_copy (Cond.code yX4_copy cX4_copy 2 none :: rc_big) ({ frames := 0, cells := 0, slots := 0, locals := 0 } : Room) (rc_P Y sh rf σ sz [.ref a0, .ref q1]) (va_Qv (fun (_ : Unit) => True) (fun _ t => rc_W Y sh rf σ' t.heap) (rc_A sh sz)) 0 0 (rc_A sh sz) := by
  refine Met.ofW (cc := cX4_copy) (maxL := 2) (ret := none) (by decide +kernel) rfl ?_
  intro p e s m args below meth c s₁ B hml hv
  obtain ⟨rfl, hsz, hW, hK, hE⟩ := hv
  have hx := B.exec
  have hb := B.bytes
  have hr := B.returns
  have hts : ∀ w ∈ rc_big, w.before _ s = true := fun w h => atoms_spec (ws := Cond.code yX4_copy cX4_copy 2 none :: rc_big) B.pre w (List.mem_cons_of_mem _ h)
  have hown : s.vm.findClass RX4 = some m.cls := findClass_of_methodNamed B.named
  have hlocks := B.notSynchronized
  clear B
  subst hsz
  have hS : va_S (rc_A sh s.heap.size) s.heap s.heap [] := va_S.rf
  have hl := lv_entry ([.ref a0, .ref q1]) (n := 2) (Nat.le_of_ble_eq_true rfl)
  rw [lg_entry_eq]
  generalize (lg_sl ([.ref a0, .ref q1]) ++ List.replicate (2 - (lg_sl ([.ref a0, .ref q1])).length) Slot.unset).toArray = ls at hl ⊢
  have hl : lv_has ls 2 [(0, .ref a0), (1, .ref q1)] := hl
  unfold f_X4_copy at hm
  refine lv_aload_n hx hb dX4_copy_0 rfl (lv_at hl 0 rfl) ?_
  refine lv_aload_n hx hb dX4_copy_1 rfl (lv_at hl 1 rfl) ?_
  refine rg_5_0 hx hb hts hown hK hW hq1 tw_1_124 dX4_copy_2 ?_
  refine rp_5_0 hx hb hts hown hK hW hS h0 tw_1_124 dX4_copy_5 (fun σ_1 H locs eσ hW hS => ?_)
  replace hm := rc_lt_at hm eσ
  clear eσ
  refine lv_aload_n hx hb dX4_copy_8 rfl (lv_at hl 0 rfl) ?_
  refine lv_aload_n hx hb dX4_copy_9 rfl (lv_at hl 1 rfl) ?_
  refine rg_5_1 hx hb hts hown hK hW hq1 tw_1_127 dX4_copy_10 ?_
  refine rp_5_1 hx hb hts hown hK hW hS h0 tw_1_127 dX4_copy_13 (fun σ_2 H locs eσ hW hS => ?_)
  replace hm := rc_lt_at hm eσ
  clear eσ
  refine lv_aload_n hx hb dX4_copy_16 rfl (lv_at hl 0 rfl) ?_
  refine lv_aload_n hx hb dX4_copy_17 rfl (lv_at hl 1 rfl) ?_
  refine rg_5_2 hx hb hts hown hK hW hq1 tw_1_130 dX4_copy_18 ?_
  refine rp_5_2 hx hb hts hown hK hW hS h0 tw_1_130 dX4_copy_21 (fun σ_3 H locs eσ hW hS => ?_)
  replace hm := rc_lt_at hm eσ
  clear eσ
  exact rc_evret hx hb hr hlocks hW hS (Nat.le_of_ble_eq_true rfl) (Nat.le_of_ble_eq_true rfl) hm dX4_copy_24
set_option maxHeartbeats 4000000 in
set_option maxRecDepth 100000 in
theorem k_X5_because (l : Launch) {Y : rc_Y} {sh : Nat → Nat} {rf : rc_F} (hT : rc_T Y sh rf) (a0 : Nat) (u1 : Int32) (u2 : Int32) (h0 : sh a0 = 6) (sz : Nat) (σ σ' : rc_S) (r : Int32) (hm : f_X5_because rf a0 u1 u2 σ = some (r, σ')) : Met l yX5_because (Cond.code yX5_because cX5_because 3 (some .int) :: rc_big) ({ frames := 0, cells := 0, slots := 0, locals := 0 } : Room) (rc_P Y sh rf σ sz [.ref a0, .int u1, .int u2]) (va_Qi (fun (r' : Int32) (_ : Unit) => r' = r) (fun _ t => rc_W Y sh rf σ' t.heap) (rc_A sh sz)) 0 0 (rc_A sh sz) := by
  refine Met.ofW (cc := cX5_because) (maxL := 3) (ret := (some .int)) (by decide +kernel) rfl ?_
  intro p e s m args below meth c s₁ B hml hv
  obtain ⟨rfl, hsz, hW, hK, hE⟩ := hv
  have hx := B.exec
  have hb := B.bytes
  have hr := B.returns
  have hts : ∀ w ∈ rc_big, w.before _ s = true := fun w h => atoms_spec (ws := Cond.code yX5_because cX5_because 3 (some .int) :: rc_big) B.pre w (List.mem_cons_of_mem _ h)
  have hown : s.vm.findClass RX5 = some m.cls := findClass_of_methodNamed B.named
  have hlocks := B.notSynchronized
  clear B
  subst hsz
  have hS : va_S (rc_A sh s.heap.size) s.heap s.heap [] := va_S.rf
  have hl := lv_entry ([.ref a0, .int u1, .int u2]) (n := 3) (Nat.le_of_ble_eq_true rfl)
  rw [lg_entry_eq]
  generalize (lg_sl ([.ref a0, .int u1, .int u2]) ++ List.replicate (3 - (lg_sl ([.ref a0, .int u1, .int u2])).length) Slot.unset).toArray = ls at hl ⊢
  have hl : lv_has ls 3 [(0, .ref a0), (1, .int u1), (2, .int u2)] := hl
  unfold f_X5_because at hm
  refine lv_aload_n hx hb dX5_because_0 rfl (lv_at hl 0 rfl) ?_
  refine lv_iload_n hx hb dX5_because_1 rfl (lv_at hl 1 rfl) ?_
  refine rp_6_0 hx hb hts hown hK hW hS h0 tw_1_215 dX5_because_2 (fun σ_1 H locs eσ hW hS => ?_)
  replace hm := rc_lt_at hm eσ
  clear eσ
  refine lv_aload_n hx hb dX5_because_5 rfl (lv_at hl 0 rfl) ?_
  refine lv_iload_n hx hb dX5_because_6 rfl (lv_at hl 2 rfl) ?_
  refine rp_6_1 hx hb hts hown hK hW hS h0 tw_1_216 dX5_because_7 (fun σ_2 H locs eσ hW hS => ?_)
  replace hm := rc_lt_at hm eσ
  clear eσ
  refine lv_aload_n hx hb dX5_because_10 rfl (lv_at hl 0 rfl) ?_
  refine lv_iconst (v := 0) hx hb dX5_because_11 (by decide) ?_
  refine rp_6_2 hx hb hts hown hK hW hS h0 tw_1_217 dX5_because_12 (fun σ_3 H locs eσ hW hS => ?_)
  replace hm := rc_lt_at hm eσ
  clear eσ
  refine lv_iconst (v := (-1)) hx hb dX5_because_15 (by decide) ?_
  exact rc_eiret hx hb hr hlocks hW hS (Nat.le_of_ble_eq_true rfl) (Nat.le_of_ble_eq_true rfl) hm dX5_because_16
set_option maxHeartbeats 4000000 in
set_option maxRecDepth 100000 in
theorem k_X6_add (l : Launch) {Y : rc_Y} {sh : Nat → Nat} {rf : rc_F} (hT : rc_T Y sh rf) (a0 : Nat) (u1 : Int32) (h0 : sh a0 = 7) (sz : Nat) (σ σ' : rc_S) (r : Unit) (hm : f_X6_add rf a0 u1 σ = some (r, σ')) : Met l yX6_add (Cond.code yX6_add cX6_add 2 none :: rc_big) ({ frames := 0, cells := 0, slots := 0, locals := 0 } : Room) (rc_P Y sh rf σ sz [.ref a0, .int u1]) (va_Qv (fun (_ : Unit) => True) (fun _ t => rc_W Y sh rf σ' t.heap) (rc_A sh sz)) 0 0 (rc_A sh sz) := by
  refine Met.ofW (cc := cX6_add) (maxL := 2) (ret := none) (by decide +kernel) rfl ?_
  intro p e s m args below meth c s₁ B hml hv
  obtain ⟨rfl, hsz, hW, hK, hE⟩ := hv
  have hx := B.exec
  have hb := B.bytes
  have hr := B.returns
  have hts : ∀ w ∈ rc_big, w.before _ s = true := fun w h => atoms_spec (ws := Cond.code yX6_add cX6_add 2 none :: rc_big) B.pre w (List.mem_cons_of_mem _ h)
  have hown : s.vm.findClass RX6 = some m.cls := findClass_of_methodNamed B.named
  have hlocks := B.notSynchronized
  clear B
  subst hsz
  have hS : va_S (rc_A sh s.heap.size) s.heap s.heap [] := va_S.rf
  have hl := lv_entry ([.ref a0, .int u1]) (n := 2) (Nat.le_of_ble_eq_true rfl)
  rw [lg_entry_eq]
  generalize (lg_sl ([.ref a0, .int u1]) ++ List.replicate (2 - (lg_sl ([.ref a0, .int u1])).length) Slot.unset).toArray = ls at hl ⊢
  have hl : lv_has ls 2 [(0, .ref a0), (1, .int u1)] := hl
  unfold f_X6_add at hm
  refine lv_aload_n hx hb dX6_add_0 rfl (lv_at hl 0 rfl) ?_
  refine rg_7_0 hx hb hts hown hK hW h0 tw_2_23 dX6_add_1 ?_
  refine lv_aload_n hx hb dX6_add_4 rfl (lv_at hl 0 rfl) ?_
  refine rg_7_1 hx hb hts hown hK hW h0 tw_2_24 dX6_add_5 ?_
  refine lv_iload_n hx hb dX6_add_8 rfl (lv_at hl 1 rfl) ?_
  have hi_1 := (rc_ix hm).1
  replace hm := (rc_ix hm).2
  refine rc_castj (j := (σ a0 1).toNatClampNeg) hx hb hK hW hS (rc_t_7_0 hT h0) (by decide) (fun _ => rfl) hi_1 rfl dX6_add_9 (fun σ_2 H locs eσ hW hS => ?_)
  replace hm := rc_lt_at hm eσ
  clear eσ
  refine lv_aload_n hx hb dX6_add_10 rfl (lv_at hl 0 rfl) ?_
  refine lv_dup hx hb dX6_add_11 rfl ?_
  refine rg_7_1 hx hb hts hown hK hW h0 tw_2_24 dX6_add_12 ?_
  refine lv_iconst (v := 1) hx hb dX6_add_15 (by decide) ?_
  refine lv_iadd hx hb dX6_add_16 ?_
  refine rp_7_1 hx hb hts hown hK hW hS h0 tw_2_24 dX6_add_17 (fun σ_3 H locs eσ hW hS => ?_)
  replace hm := rc_lt_at hm eσ
  clear eσ
  exact rc_evret hx hb hr hlocks hW hS (Nat.le_of_ble_eq_true rfl) (Nat.le_of_ble_eq_true rfl) hm dX6_add_20
set_option maxHeartbeats 4000000 in
set_option maxRecDepth 100000 in
theorem k_X6_makeEmpty (l : Launch) {Y : rc_Y} {sh : Nat → Nat} {rf : rc_F} (hT : rc_T Y sh rf) (a0 : Nat) (h0 : sh a0 = 7) (sz : Nat) (σ σ' : rc_S) (r : Unit) (hm : f_X6_makeEmpty rf a0 σ = some (r, σ')) : Met l yX6_makeEmpty (Cond.code yX6_makeEmpty cX6_makeEmpty 1 none :: rc_big) ({ frames := 0, cells := 0, slots := 0, locals := 0 } : Room) (rc_P Y sh rf σ sz [.ref a0]) (va_Qv (fun (_ : Unit) => True) (fun _ t => rc_W Y sh rf σ' t.heap) (rc_A sh sz)) 0 0 (rc_A sh sz) := by
  refine Met.ofW (cc := cX6_makeEmpty) (maxL := 1) (ret := none) (by decide +kernel) rfl ?_
  intro p e s m args below meth c s₁ B hml hv
  obtain ⟨rfl, hsz, hW, hK, hE⟩ := hv
  have hx := B.exec
  have hb := B.bytes
  have hr := B.returns
  have hts : ∀ w ∈ rc_big, w.before _ s = true := fun w h => atoms_spec (ws := Cond.code yX6_makeEmpty cX6_makeEmpty 1 none :: rc_big) B.pre w (List.mem_cons_of_mem _ h)
  have hown : s.vm.findClass RX6 = some m.cls := findClass_of_methodNamed B.named
  have hlocks := B.notSynchronized
  clear B
  subst hsz
  have hS : va_S (rc_A sh s.heap.size) s.heap s.heap [] := va_S.rf
  have hl := lv_entry ([.ref a0]) (n := 1) (Nat.le_of_ble_eq_true rfl)
  rw [lg_entry_eq]
  generalize (lg_sl ([.ref a0]) ++ List.replicate (1 - (lg_sl ([.ref a0])).length) Slot.unset).toArray = ls at hl ⊢
  have hl : lv_has ls 1 [(0, .ref a0)] := hl
  unfold f_X6_makeEmpty at hm
  refine lv_aload_n hx hb dX6_makeEmpty_0 rfl (lv_at hl 0 rfl) ?_
  refine lv_iconst (v := 0) hx hb dX6_makeEmpty_1 (by decide) ?_
  refine rp_7_1 hx hb hts hown hK hW hS h0 tw_2_24 dX6_makeEmpty_2 (fun σ_1 H locs eσ hW hS => ?_)
  replace hm := rc_lt_at hm eσ
  clear eσ
  exact rc_evret hx hb hr hlocks hW hS (Nat.le_of_ble_eq_true rfl) (Nat.le_of_ble_eq_true rfl) hm dX6_makeEmpty_5
set_option maxHeartbeats 4000000 in
set_option maxRecDepth 100000 in
theorem k_X6_numberOf (l : Launch) {Y : rc_Y} {sh : Nat → Nat} {rf : rc_F} (hT : rc_T Y sh rf) (a0 : Nat) (u1 : Int32) (u2 : Int32) (h0 : sh a0 = 7) (sz : Nat) (σ σ' : rc_S) (r : Int32) (hm : f_X6_numberOf rf a0 u1 u2 σ = some (r, σ')) : Met l yX6_numberOf (Cond.code yX6_numberOf cX6_numberOf 3 (some .int) :: rc_big) ({ frames := 0, cells := 0, slots := 0, locals := 0 } : Room) (rc_P Y sh rf σ sz [.ref a0, .int u1, .int u2]) (va_Qi (fun (r' : Int32) (_ : Unit) => r' = r) (fun _ t => rc_W Y sh rf σ' t.heap) (rc_A sh sz)) 0 0 (rc_A sh sz) := by
  refine Met.ofW (cc := cX6_numberOf) (maxL := 3) (ret := (some .int)) (by decide +kernel) rfl ?_
  intro p e s m args below meth c s₁ B hml hv
  obtain ⟨rfl, hsz, hW, hK, hE⟩ := hv
  have hx := B.exec
  have hb := B.bytes
  have hr := B.returns
  have hts : ∀ w ∈ rc_big, w.before _ s = true := fun w h => atoms_spec (ws := Cond.code yX6_numberOf cX6_numberOf 3 (some .int) :: rc_big) B.pre w (List.mem_cons_of_mem _ h)
  have hown : s.vm.findClass RX6 = some m.cls := findClass_of_methodNamed B.named
  have hlocks := B.notSynchronized
  clear B
  subst hsz
  have hS : va_S (rc_A sh s.heap.size) s.heap s.heap [] := va_S.rf
  have hl := lv_entry ([.ref a0, .int u1, .int u2]) (n := 3) (Nat.le_of_ble_eq_true rfl)
  rw [lg_entry_eq]
  generalize (lg_sl ([.ref a0, .int u1, .int u2]) ++ List.replicate (3 - (lg_sl ([.ref a0, .int u1, .int u2])).length) Slot.unset).toArray = ls at hl ⊢
  have hl : lv_has ls 3 [(0, .ref a0), (1, .int u1), (2, .int u2)] := hl
  unfold f_X6_numberOf at hm
  refine lv_aload_n hx hb dX6_numberOf_0 rfl (lv_at hl 0 rfl) ?_
  refine rg_7_3 hx hb hts hown hK hW h0 tw_2_28 dX6_numberOf_1 ?_
  refine lv_iload_n hx hb dX6_numberOf_4 rfl (lv_at hl 1 rfl) ?_
  refine lv_iconst (v := 3) hx hb dX6_numberOf_5 (by decide) ?_
  refine lv_imul hx hb dX6_numberOf_6 ?_
  refine lv_iload_n hx hb dX6_numberOf_7 rfl (lv_at hl 2 rfl) ?_
  refine lv_iadd hx hb dX6_numberOf_8 ?_
  have hi_1 := (rc_ix hm).1
  replace hm := (rc_ix hm).2
  refine rc_ialdj (j := ((u1 * (3 : Int32)) + u2).toNatClampNeg) hx hb hK hW (rc_t_7_3 hT h0) (by decide) rfl hi_1 rfl dX6_numberOf_9 ?_
  exact rc_eiret hx hb hr hlocks hW hS (Nat.le_of_ble_eq_true rfl) (Nat.le_of_ble_eq_true rfl) hm dX6_numberOf_10
set_option maxHeartbeats 4000000 in
set_option maxRecDepth 100000 in
theorem k_X6_formOf (l : Launch) {Y : rc_Y} {sh : Nat → Nat} {rf : rc_F} (hT : rc_T Y sh rf) (u0 : Int32) (sz : Nat) (σ σ' : rc_S) (r : Nat) (hm : f_X6_formOf rf u0 σ = some (r, σ')) : Met l yX6_formOf (Cond.code yX6_formOf cX6_formOf 1 (some (.object "java/lang/String")) :: rc_big) ({ frames := 0, cells := 0, slots := 0, locals := 0 } : Room) (rc_P Y sh rf σ sz [.int u0]) (va_Qq (fun (q : Option Nat) (_ : Unit) => q = rc_sv Y r) (fun _ t => rc_W Y sh rf σ' t.heap) (rc_A sh sz)) 0 0 (rc_A sh sz) := by
  refine Met.ofW (cc := cX6_formOf) (maxL := 1) (ret := (some (.object "java/lang/String"))) (by decide +kernel) rfl ?_
  intro p e s m args below meth c s₁ B hml hv
  obtain ⟨rfl, hsz, hW, hK, hE⟩ := hv
  have hx := B.exec
  have hb := B.bytes
  have hr := B.returns
  have hts : ∀ w ∈ rc_big, w.before _ s = true := fun w h => atoms_spec (ws := Cond.code yX6_formOf cX6_formOf 1 (some (.object "java/lang/String")) :: rc_big) B.pre w (List.mem_cons_of_mem _ h)
  have hown : s.vm.findClass RX6 = some m.cls := findClass_of_methodNamed B.named
  have hlocks := B.notSynchronized
  clear B
  subst hsz
  have hS : va_S (rc_A sh s.heap.size) s.heap s.heap [] := va_S.rf
  have hl := lv_entry ([.int u0]) (n := 1) (Nat.le_of_ble_eq_true rfl)
  rw [lg_entry_eq]
  generalize (lg_sl ([.int u0]) ++ List.replicate (1 - (lg_sl ([.int u0])).length) Slot.unset).toArray = ls at hl ⊢
  have hl : lv_has ls 1 [(0, .int u0)] := hl
  unfold f_X6_formOf at hm
  refine lv_iload_n hx hb dX6_formOf_0 rfl (lv_at hl 0 rfl) ?_
  by_cases c_1 : u0 = (104 : Int32)
  · replace hm := rc_t hm c_1
    refine lv_lookup (off := 49) (tgt := 50) hx hb dX6_formOf_1 (by decide +kernel) (by rw [c_1]; decide) (by decide) ?_
    refine va_ldcS hx hb hown (rc_E_R hE 2 (by decide)) dX6_formOf_50 ?_
    exact rc_esret (j := 2) hx hb hr hlocks hW hS (Nat.le_of_ble_eq_true rfl) (Nat.le_of_ble_eq_true rfl) rfl hm dX6_formOf_52
  · replace hm := rc_f hm c_1
    by_cases c_2 : u0 = (112 : Int32)
    · replace hm := rc_t hm c_2
      refine lv_lookup (off := 46) (tgt := 47) hx hb dX6_formOf_1 (by decide +kernel) (by rw [c_2]; decide) (by decide) ?_
      refine va_ldcS hx hb hown (rc_E_R hE 1 (by decide)) dX6_formOf_47 ?_
      exact rc_esret (j := 1) hx hb hr hlocks hW hS (Nat.le_of_ble_eq_true rfl) (Nat.le_of_ble_eq_true rfl) rfl hm dX6_formOf_49
    · replace hm := rc_f hm c_2
      by_cases c_3 : u0 = (115 : Int32)
      · replace hm := rc_t hm c_3
        refine lv_lookup (off := 43) (tgt := 44) hx hb dX6_formOf_1 (by decide +kernel) (by rw [c_3]; decide) (by decide) ?_
        refine va_ldcS hx hb hown (rc_E_R hE 0 (by decide)) dX6_formOf_44 ?_
        exact rc_esret (j := 0) hx hb hr hlocks hW hS (Nat.le_of_ble_eq_true rfl) (Nat.le_of_ble_eq_true rfl) rfl hm dX6_formOf_46
      · replace hm := rc_f hm c_3
        by_cases c_4 : u0 = (121 : Int32)
        · replace hm := rc_t hm c_4
          refine lv_lookup (off := 52) (tgt := 53) hx hb dX6_formOf_1 (by decide +kernel) (by rw [c_4]; decide) (by decide) ?_
          refine va_ldcS hx hb hown (rc_E_R hE 3 (by decide)) dX6_formOf_53 ?_
          exact rc_esret (j := 3) hx hb hr hlocks hW hS (Nat.le_of_ble_eq_true rfl) (Nat.le_of_ble_eq_true rfl) rfl hm dX6_formOf_55
        · replace hm := rc_f hm c_4
          refine lv_lookup (off := 55) (tgt := 56) hx hb dX6_formOf_1 (by decide +kernel) (by first | (rw [lv_osw c_1 (by decide), lv_osw c_2 (by decide), lv_osw c_3 (by decide), lv_osw c_4 (by decide)]; rfl)) (by decide) ?_
          refine va_ldcS hx hb hown (rc_E_R hE 4 (by decide)) dX6_formOf_56 ?_
          exact rc_esret (j := 4) hx hb hr hlocks hW hS (Nat.le_of_ble_eq_true rfl) (Nat.le_of_ble_eq_true rfl) rfl hm dX6_formOf_58
set_option maxHeartbeats 4000000 in
set_option maxRecDepth 100000 in
theorem k_X6_readSign (l : Launch) {Y : rc_Y} {sh : Nat → Nat} {rf : rc_F} (hT : rc_T Y sh rf) (a0 : Nat) (u1 : Int32) (h0 : sh a0 = 7) (sz : Nat) (σ σ' : rc_S) (r : Int32) (hm : f_X6_readSign rf a0 u1 σ = some (r, σ')) : Met l yX6_readSign (Cond.code yX6_readSign cX6_readSign 2 (some .boolean) :: rc_big) ({ frames := 0, cells := 0, slots := 0, locals := 0 } : Room) (rc_P Y sh rf σ sz [.ref a0, .int u1]) (va_Qi (fun (r' : Int32) (_ : Unit) => r' = r) (fun _ t => rc_W Y sh rf σ' t.heap) (rc_A sh sz)) 0 0 (rc_A sh sz) := by
  refine Met.ofW (cc := cX6_readSign) (maxL := 2) (ret := (some .boolean)) (by decide +kernel) rfl ?_
  intro p e s m args below meth c s₁ B hml hv
  obtain ⟨rfl, hsz, hW, hK, hE⟩ := hv
  have hx := B.exec
  have hb := B.bytes
  have hr := B.returns
  have hts : ∀ w ∈ rc_big, w.before _ s = true := fun w h => atoms_spec (ws := Cond.code yX6_readSign cX6_readSign 2 (some .boolean) :: rc_big) B.pre w (List.mem_cons_of_mem _ h)
  have hown : s.vm.findClass RX6 = some m.cls := findClass_of_methodNamed B.named
  have hlocks := B.notSynchronized
  clear B
  subst hsz
  have hS : va_S (rc_A sh s.heap.size) s.heap s.heap [] := va_S.rf
  have hl := lv_entry ([.ref a0, .int u1]) (n := 2) (Nat.le_of_ble_eq_true rfl)
  rw [lg_entry_eq]
  generalize (lg_sl ([.ref a0, .int u1]) ++ List.replicate (2 - (lg_sl ([.ref a0, .int u1])).length) Slot.unset).toArray = ls at hl ⊢
  have hl : lv_has ls 2 [(0, .ref a0), (1, .int u1)] := hl
  unfold f_X6_readSign at hm
  refine lv_aload_n hx hb dX6_readSign_0 rfl (lv_at hl 0 rfl) ?_
  refine rg_7_5 hx hb hts hown hK hW h0 tw_2_31 dX6_readSign_1 ?_
  refine lv_aload_n hx hb dX6_readSign_4 rfl (lv_at hl 0 rfl) ?_
  refine rg_7_1 hx hb hts hown hK hW h0 tw_2_24 dX6_readSign_5 ?_
  refine lv_icmp_ge (tgt := 24) hx hb dX6_readSign_8 (by decide) (fun c_4 => ?_) (fun c_4 => ?_)
  · replace hm := rc_t hm c_4
    refine lv_iconst (v := 0) hx hb dX6_readSign_24 (by decide) ?_
    exact rc_ezret hx hb hr hlocks hW hS (Nat.le_of_ble_eq_true rfl) (Nat.le_of_ble_eq_true rfl) rfl hm dX6_readSign_25
  · replace hm := rc_f hm c_4
    refine lv_aload_n hx hb dX6_readSign_11 rfl (lv_at hl 0 rfl) ?_
    refine rg_7_0 hx hb hts hown hK hW h0 tw_2_23 dX6_readSign_12 ?_
    refine lv_aload_n hx hb dX6_readSign_15 rfl (lv_at hl 0 rfl) ?_
    refine rg_7_5 hx hb hts hown hK hW h0 tw_2_31 dX6_readSign_16 ?_
    have hi_1 := (rc_ix hm).1
    replace hm := (rc_ix hm).2
    refine rc_caldj (j := (σ a0 5).toNatClampNeg) hx hb hK hW (rc_t_7_0 hT h0) (by decide) rfl hi_1 rfl dX6_readSign_19 ?_
    refine lv_iload_n hx hb dX6_readSign_20 rfl (lv_at hl 1 rfl) ?_
    refine lv_icmp_eq (tgt := 26) hx hb dX6_readSign_21 (by decide) (fun c_3 => ?_) (fun c_3 => ?_)
    · replace hm := rc_t hm c_3
      refine lv_aload_n hx hb dX6_readSign_26 rfl (lv_at hl 0 rfl) ?_
      refine lv_dup hx hb dX6_readSign_27 rfl ?_
      refine rg_7_5 hx hb hts hown hK hW h0 tw_2_31 dX6_readSign_28 ?_
      refine lv_iconst (v := 1) hx hb dX6_readSign_31 (by decide) ?_
      refine lv_iadd hx hb dX6_readSign_32 ?_
      refine rp_7_5 hx hb hts hown hK hW hS h0 tw_2_31 dX6_readSign_33 (fun σ_2 H locs eσ hW hS => ?_)
      replace hm := rc_lt_at hm eσ
      clear eσ
      refine lv_iconst (v := 1) hx hb dX6_readSign_36 (by decide) ?_
      exact rc_ezret hx hb hr hlocks hW hS (Nat.le_of_ble_eq_true rfl) (Nat.le_of_ble_eq_true rfl) rfl hm dX6_readSign_37
    · replace hm := rc_f hm c_3
      refine lv_iconst (v := 0) hx hb dX6_readSign_24 (by decide) ?_
      exact rc_ezret hx hb hr hlocks hW hS (Nat.le_of_ble_eq_true rfl) (Nat.le_of_ble_eq_true rfl) rfl hm dX6_readSign_25
set_option maxHeartbeats 4000000 in
set_option maxRecDepth 100000 in
theorem k_X6_readNumber (l : Launch) {Y : rc_Y} {sh : Nat → Nat} {rf : rc_F} (hT : rc_T Y sh rf) (a0 : Nat) (u1 : Int32) (h0 : sh a0 = 7) (sz : Nat) (σ σ' : rc_S) (r : Int32) (hm : f_X6_readNumber rf a0 u1 σ = some (r, σ')) : Met l yX6_readNumber (Cond.code yX6_readNumber cX6_readNumber 4 (some .boolean) :: rc_big) ({ frames := 0, cells := 0, slots := 0, locals := 0 } : Room) (rc_P Y sh rf σ sz [.ref a0, .int u1]) (va_Qi (fun (r' : Int32) (_ : Unit) => r' = r) (fun _ t => rc_W Y sh rf σ' t.heap) (rc_A sh sz)) 0 0 (rc_A sh sz) := by
  refine Met.ofW (cc := cX6_readNumber) (maxL := 4) (ret := (some .boolean)) (by decide +kernel) rfl ?_
  intro p e s m args below meth c s₁ B hml hv
  obtain ⟨rfl, hsz, hW, hK, hE⟩ := hv
  have hx := B.exec
  have hb := B.bytes
  have hr := B.returns
  have hts : ∀ w ∈ rc_big, w.before _ s = true := fun w h => atoms_spec (ws := Cond.code yX6_readNumber cX6_readNumber 4 (some .boolean) :: rc_big) B.pre w (List.mem_cons_of_mem _ h)
  have hown : s.vm.findClass RX6 = some m.cls := findClass_of_methodNamed B.named
  have hlocks := B.notSynchronized
  clear B
  subst hsz
  have hS : va_S (rc_A sh s.heap.size) s.heap s.heap [] := va_S.rf
  have hl := lv_entry ([.ref a0, .int u1]) (n := 4) (Nat.le_of_ble_eq_true rfl)
  rw [lg_entry_eq]
  generalize (lg_sl ([.ref a0, .int u1]) ++ List.replicate (4 - (lg_sl ([.ref a0, .int u1])).length) Slot.unset).toArray = ls at hl ⊢
  have hl : lv_has ls 4 [(0, .ref a0), (1, .int u1)] := hl
  have lp_4 : ∀ (v1 : Int32) (K : Int32 → Int32 → rc_S → Option (Int32 × rc_S)) (hKK : ∀ (v2 v3 : Int32) (σ : rc_S) (H : Heap) (locs : List Loc) (ls : Array Slot), K v2 v3 σ = some (r, σ') → rc_W Y sh rf σ H → va_S (rc_A sh s.heap.size) s.heap H locs → lv_has ls 4 [(0, .ref a0), (2, .int v2), (3, .int v3)] → W p l e (headSpec (Cond.code yX6_readNumber cX6_readNumber 4 (some .boolean) :: rc_big) ({ frames := 0, cells := 0, slots := 0, locals := 0 } : Room)).room s m (([.ref a0, .int u1] : List Value).toArray) below meth c H locs 0 0 (MQ below (va_Qi (fun (r' : Int32) (_ : Unit) => r' = r) (fun _ t => rc_W Y sh rf σ' t.heap) (rc_A sh s.heap.size)) ([.ref a0, .int u1] : List Value).toArray s 0 0 (rc_A sh s.heap.size)) (F0 m 82 ls [])) (n : Nat) (v2 v3 : Int32) (σ : rc_S) (H : Heap) (locs : List Loc) (ls : Array Slot), f_X6_readNumber_4 rf a0 v1 K n v2 v3 σ = some (r, σ') → rc_W Y sh rf σ H → va_S (rc_A sh s.heap.size) s.heap H locs → lv_has ls 4 [(0, .ref a0), (1, .int v1), (2, .int v2), (3, .int v3)] → W p l e (headSpec (Cond.code yX6_readNumber cX6_readNumber 4 (some .boolean) :: rc_big) ({ frames := 0, cells := 0, slots := 0, locals := 0 } : Room)).room s m (([.ref a0, .int u1] : List Value).toArray) below meth c H locs 0 0 (MQ below (va_Qi (fun (r' : Int32) (_ : Unit) => r' = r) (fun _ t => rc_W Y sh rf σ' t.heap) (rc_A sh s.heap.size)) ([.ref a0, .int u1] : List Value).toArray s 0 0 (rc_A sh s.heap.size)) (F0 m 4 ls []) := by
    intro v1 K hKK n
    induction n with
    | zero =>
      intro v2 v3 σ H locs ls hm
      rw [f_X6_readNumber_4] at hm
      cases hm
    | succ n ih =>
      intro v2 v3 σ H locs ls hm hW hS hl
      rw [f_X6_readNumber_4] at hm
      refine lv_iload_n hx hb dX6_readNumber_4 rfl (lv_at hl 3 rfl) ?_
      refine lv_iload_n hx hb dX6_readNumber_5 rfl (lv_at hl 1 rfl) ?_
      refine lv_icmp_ge (tgt := 82) hx hb dX6_readNumber_6 (by decide) (fun c_10 => ?_) (fun c_10 => ?_)
      · replace hm := rc_t hm c_10
        exact hKK v2 v3 σ _ _ _ hm hW hS (lv_sub hl [0, 2, 3] rfl)
      · replace hm := rc_f hm c_10
        refine lv_aload_n hx hb dX6_readNumber_9 rfl (lv_at hl 0 rfl) ?_
        refine rg_7_5 hx hb hts hown hK hW h0 tw_2_31 dX6_readNumber_10 ?_
        refine lv_aload_n hx hb dX6_readNumber_13 rfl (lv_at hl 0 rfl) ?_
        refine rg_7_1 hx hb hts hown hK hW h0 tw_2_24 dX6_readNumber_14 ?_
        refine lv_icmp_ge (tgt := 82) hx hb dX6_readNumber_17 (by decide) (fun c_9 => ?_) (fun c_9 => ?_)
        · replace hm := rc_t hm c_9
          exact hKK v2 v3 σ _ _ _ hm hW hS (lv_sub hl [0, 2, 3] rfl)
        · replace hm := rc_f hm c_9
          refine lv_aload_n hx hb dX6_readNumber_20 rfl (lv_at hl 0 rfl) ?_
          refine rg_7_0 hx hb hts hown hK hW h0 tw_2_23 dX6_readNumber_21 ?_
          refine lv_aload_n hx hb dX6_readNumber_24 rfl (lv_at hl 0 rfl) ?_
          refine rg_7_5 hx hb hts hown hK hW h0 tw_2_31 dX6_readNumber_25 ?_
          have hi_1 := (rc_ix hm).1
          replace hm := (rc_ix hm).2
          refine rc_caldj (j := (σ a0 5).toNatClampNeg) hx hb hK hW (rc_t_7_0 hT h0) (by decide) rfl hi_1 rfl dX6_readNumber_28 ?_
          refine lv_bipush (v := 48) hx hb dX6_readNumber_29 (by decide) ?_
          refine lv_icmp_lt (tgt := 82) hx hb dX6_readNumber_31 (by decide) (fun c_8 => ?_) (fun c_8 => ?_)
          · replace hm := rc_t hm c_8
            exact hKK v2 v3 σ _ _ _ hm hW hS (lv_sub hl [0, 2, 3] rfl)
          · replace hm := rc_f hm c_8
            refine lv_aload_n hx hb dX6_readNumber_34 rfl (lv_at hl 0 rfl) ?_
            refine rg_7_0 hx hb hts hown hK hW h0 tw_2_23 dX6_readNumber_35 ?_
            refine lv_aload_n hx hb dX6_readNumber_38 rfl (lv_at hl 0 rfl) ?_
            refine rg_7_5 hx hb hts hown hK hW h0 tw_2_31 dX6_readNumber_39 ?_
            have hi_2 := (rc_ix hm).1
            replace hm := (rc_ix hm).2
            refine rc_caldj (j := (σ a0 5).toNatClampNeg) hx hb hK hW (rc_t_7_0 hT h0) (by decide) rfl hi_2 rfl dX6_readNumber_42 ?_
            refine lv_bipush (v := 57) hx hb dX6_readNumber_43 (by decide) ?_
            refine lv_icmp_gt (tgt := 82) hx hb dX6_readNumber_45 (by decide) (fun c_7 => ?_) (fun c_7 => ?_)
            · replace hm := rc_t hm c_7
              exact hKK v2 v3 σ _ _ _ hm hW hS (lv_sub hl [0, 2, 3] rfl)
            · replace hm := rc_f hm c_7
              refine lv_bipush (v := 10) hx hb dX6_readNumber_48 (by decide) ?_
              refine lv_iload_n hx hb dX6_readNumber_50 rfl (lv_at hl 2 rfl) ?_
              refine lv_imul hx hb dX6_readNumber_51 ?_
              refine lv_aload_n hx hb dX6_readNumber_52 rfl (lv_at hl 0 rfl) ?_
              refine rg_7_0 hx hb hts hown hK hW h0 tw_2_23 dX6_readNumber_53 ?_
              refine lv_aload_n hx hb dX6_readNumber_56 rfl (lv_at hl 0 rfl) ?_
              refine rg_7_5 hx hb hts hown hK hW h0 tw_2_31 dX6_readNumber_57 ?_
              have hi_3 := (rc_ix hm).1
              replace hm := (rc_ix hm).2
              refine rc_caldj (j := (σ a0 5).toNatClampNeg) hx hb hK hW (rc_t_7_0 hT h0) (by decide) rfl hi_3 rfl dX6_readNumber_60 ?_
              refine lv_bipush (v := 48) hx hb dX6_readNumber_61 (by decide) ?_
              refine lv_isub hx hb dX6_readNumber_63 ?_
              refine lv_iadd hx hb dX6_readNumber_64 ?_
              refine lv_topi (fun v2_4 ev => ?_)
              replace hm := rc_lt_at hm ev
              clear ev
              refine lv_istore_n (lv' := [(2, .int v2_4), (0, .ref a0), (1, .int v1), (3, .int v3)]) hx hb dX6_readNumber_65 rfl hl (by decide) rfl (fun ls hl => ?_)
              obtain ⟨v3_5, ev⟩ : ∃ y : Int32, y = (v3 + 1) := ⟨_, rfl⟩
              replace hm := rc_lt_at hm ev
              refine lv_iinc (v := v3_5) (lv' := [(3, .int v3_5), (2, .int v2_4), (0, .ref a0), (1, .int v1)]) hx hb dX6_readNumber_66 hl (k := 3) rfl (by rw [ev]; rfl) (by decide) rfl (fun ls hl => ?_)
              clear ev
              refine lv_aload_n hx hb dX6_readNumber_69 rfl (lv_at hl 2 rfl) ?_
              refine lv_dup hx hb dX6_readNumber_70 rfl ?_
              refine rg_7_5 hx hb hts hown hK hW h0 tw_2_31 dX6_readNumber_71 ?_
              refine lv_iconst (v := 1) hx hb dX6_readNumber_74 (by decide) ?_
              refine lv_iadd hx hb dX6_readNumber_75 ?_
              refine rp_7_5 hx hb hts hown hK hW hS h0 tw_2_31 dX6_readNumber_76 (fun σ_6 H locs eσ hW hS => ?_)
              replace hm := rc_lt_at hm eσ
              clear eσ
              refine lv_goto (tgt := 4) hx hb dX6_readNumber_79 (by decide) ?_
              exact ih v2_4 v3_5 σ_6 _ _ _ hm hW hS (lv_sub hl [2, 3, 1, 0] rfl)
  unfold f_X6_readNumber at hm
  refine lv_iconst (v := 0) hx hb dX6_readNumber_0 (by decide) ?_
  refine lv_istore_n (lv' := [(2, .int (0 : Int32)), (0, .ref a0), (1, .int u1)]) hx hb dX6_readNumber_1 rfl hl (by decide) rfl (fun ls hl => ?_)
  refine lv_iconst (v := 0) hx hb dX6_readNumber_2 (by decide) ?_
  refine lv_istore_n (lv' := [(3, .int (0 : Int32)), (2, .int (0 : Int32)), (0, .ref a0), (1, .int u1)]) hx hb dX6_readNumber_3 rfl hl (by decide) rfl (fun ls hl => ?_)
  refine lp_4 u1 _ (fun v2_11 v3_12 σ_13 H locs ls hm hW hS hl => ?_) rc_fu (0 : Int32) (0 : Int32) σ _ _ _ hm hW hS (lv_sub hl [2, 3, 1, 0] rfl)
  refine lv_iload_n hx hb dX6_readNumber_82 rfl (lv_at hl 2 rfl) ?_
  refine lv_if_ne (tgt := 88) hx hb dX6_readNumber_83 (by decide) (fun c_17 => ?_) (fun c_17 => ?_)
  · replace hm := rc_f hm c_17
    refine lv_aload_n hx hb dX6_readNumber_88 rfl (lv_at hl 0 rfl) ?_
    refine rg_7_3 hx hb hts hown hK hW h0 tw_2_28 dX6_readNumber_89 ?_
    refine lv_aload_n hx hb dX6_readNumber_92 rfl (lv_at hl 0 rfl) ?_
    refine rg_7_4 hx hb hts hown hK hW h0 tw_2_29 dX6_readNumber_93 ?_
    refine lv_iconst (v := 3) hx hb dX6_readNumber_96 (by decide) ?_
    refine lv_imul hx hb dX6_readNumber_97 ?_
    refine lv_aload_n hx hb dX6_readNumber_98 rfl (lv_at hl 0 rfl) ?_
    refine rg_7_6 hx hb hts hown hK hW h0 tw_2_32 dX6_readNumber_99 ?_
    refine lv_iadd hx hb dX6_readNumber_102 ?_
    refine lv_iload_n hx hb dX6_readNumber_103 rfl (lv_at hl 1 rfl) ?_
    have hi_14 := (rc_ix hm).1
    replace hm := (rc_ix hm).2
    refine rc_iastj (j := (((σ_13 a0 4) * (3 : Int32)) + (σ_13 a0 6)).toNatClampNeg) hx hb hK hW hS (rc_t_7_3 hT h0) (by decide) (fun _ => rfl) hi_14 rfl dX6_readNumber_104 (fun σ_15 H locs eσ hW hS => ?_)
    replace hm := rc_lt_at hm eσ
    clear eσ
    refine lv_aload_n hx hb dX6_readNumber_105 rfl (lv_at hl 0 rfl) ?_
    refine lv_dup hx hb dX6_readNumber_106 rfl ?_
    refine rg_7_6 hx hb hts hown hK hW h0 tw_2_32 dX6_readNumber_107 ?_
    refine lv_iconst (v := 1) hx hb dX6_readNumber_110 (by decide) ?_
    refine lv_iadd hx hb dX6_readNumber_111 ?_
    refine rp_7_6 hx hb hts hown hK hW hS h0 tw_2_32 dX6_readNumber_112 (fun σ_16 H locs eσ hW hS => ?_)
    replace hm := rc_lt_at hm eσ
    clear eσ
    refine lv_iconst (v := 1) hx hb dX6_readNumber_115 (by decide) ?_
    exact rc_ezret hx hb hr hlocks hW hS (Nat.le_of_ble_eq_true rfl) (Nat.le_of_ble_eq_true rfl) rfl hm dX6_readNumber_116
  · replace hm := rc_t hm c_17
    refine lv_iconst (v := 0) hx hb dX6_readNumber_86 (by decide) ?_
    exact rc_ezret hx hb hr hlocks hW hS (Nat.le_of_ble_eq_true rfl) (Nat.le_of_ble_eq_true rfl) rfl hm dX6_readNumber_87
set_option maxHeartbeats 4000000 in
set_option maxRecDepth 100000 in
theorem k_X7_fillUnder (l : Launch) {Y : rc_Y} {sh : Nat → Nat} {rf : rc_F} (hT : rc_T Y sh rf) (a0 : Nat) (u1 : Int32) (u2 : Int32) (h0 : sh a0 = 8) (sz : Nat) (σ σ' : rc_S) (r : Int32) (hm : f_X7_fillUnder rf a0 u1 u2 σ = some (r, σ')) : Met l yX7_fillUnder (Cond.code yX7_fillUnder cX7_fillUnder 6 (some .int) :: rc_big) ({ frames := 1, cells := 0, slots := 0, locals := 20 } : Room) (rc_P Y sh rf σ sz [.ref a0, .int u1, .int u2]) (va_Qi (fun (r' : Int32) (_ : Unit) => r' = r) (fun _ t => rc_W Y sh rf σ' t.heap) (rc_A sh sz)) 0 0 (rc_A sh sz) := by
  refine Met.ofW (cc := cX7_fillUnder) (maxL := 6) (ret := (some .int)) (by decide +kernel) rfl ?_
  intro p e s m args below meth c s₁ B hml hv
  obtain ⟨rfl, hsz, hW, hK, hE⟩ := hv
  have hx := B.exec
  have hb := B.bytes
  have hr := B.returns
  have hts : ∀ w ∈ rc_big, w.before _ s = true := fun w h => atoms_spec (ws := Cond.code yX7_fillUnder cX7_fillUnder 6 (some .int) :: rc_big) B.pre w (List.mem_cons_of_mem _ h)
  have hown : s.vm.findClass RX7 = some m.cls := findClass_of_methodNamed B.named
  have hlocks := B.notSynchronized
  clear B
  subst hsz
  have hS : va_S (rc_A sh s.heap.size) s.heap s.heap [] := va_S.rf
  have hl := lv_entry ([.ref a0, .int u1, .int u2]) (n := 6) (Nat.le_of_ble_eq_true rfl)
  rw [lg_entry_eq]
  generalize (lg_sl ([.ref a0, .int u1, .int u2]) ++ List.replicate (6 - (lg_sl ([.ref a0, .int u1, .int u2])).length) Slot.unset).toArray = ls at hl ⊢
  have hl : lv_has ls 6 [(0, .ref a0), (1, .int u1), (2, .int u2)] := hl
  have lp_5 : ∀ (v1 : Int32) (v2 : Int32) (K : Int32 → Int32 → rc_S → Option (Int32 × rc_S)) (hKK : ∀ (v3 v4 : Int32) (σ : rc_S) (H : Heap) (locs : List Loc) (ls : Array Slot), K v3 v4 σ = some (r, σ') → rc_W Y sh rf σ H → va_S (rc_A sh s.heap.size) s.heap H locs → lv_has ls 6 [(2, .int v2), (3, .int v3)] → W p l e (headSpec (Cond.code yX7_fillUnder cX7_fillUnder 6 (some .int) :: rc_big) ({ frames := 1, cells := 0, slots := 0, locals := 20 } : Room)).room s m (([.ref a0, .int u1, .int u2] : List Value).toArray) below meth c H locs 0 0 (MQ below (va_Qi (fun (r' : Int32) (_ : Unit) => r' = r) (fun _ t => rc_W Y sh rf σ' t.heap) (rc_A sh s.heap.size)) ([.ref a0, .int u1, .int u2] : List Value).toArray s 0 0 (rc_A sh s.heap.size)) (F0 m 113 ls [])) (n : Nat) (v3 v4 : Int32) (σ : rc_S) (H : Heap) (locs : List Loc) (ls : Array Slot), f_X7_fillUnder_5 rf a0 v1 v2 K n v3 v4 σ = some (r, σ') → rc_W Y sh rf σ H → va_S (rc_A sh s.heap.size) s.heap H locs → lv_has ls 6 [(0, .ref a0), (1, .int v1), (2, .int v2), (3, .int v3), (4, .int v4)] → W p l e (headSpec (Cond.code yX7_fillUnder cX7_fillUnder 6 (some .int) :: rc_big) ({ frames := 1, cells := 0, slots := 0, locals := 20 } : Room)).room s m (([.ref a0, .int u1, .int u2] : List Value).toArray) below meth c H locs 0 0 (MQ below (va_Qi (fun (r' : Int32) (_ : Unit) => r' = r) (fun _ t => rc_W Y sh rf σ' t.heap) (rc_A sh s.heap.size)) ([.ref a0, .int u1, .int u2] : List Value).toArray s 0 0 (rc_A sh s.heap.size)) (F0 m 5 ls []) := by
    intro v1 v2 K hKK n
    induction n with
    | zero =>
      intro v3 v4 σ H locs ls hm
      rw [f_X7_fillUnder_5] at hm
      cases hm
    | succ n ih =>
      intro v3 v4 σ H locs ls hm hW hS hl
      rw [f_X7_fillUnder_5] at hm
      refine lv_iload hx hb dX7_fillUnder_5 (lv_at hl 4 rfl) ?_
      refine lv_aload_n hx hb dX7_fillUnder_7 rfl (lv_at hl 0 rfl) ?_
      refine rg_8_0 hx hb hts hown hK hW h0 tw_1_226 dX7_fillUnder_8 ?_
      refine rg_2_2 hx hb hts hown hK hW (rc_t_8_0 hT h0) tw_1_147 dX7_fillUnder_11 ?_
      refine lv_icmp_ge (tgt := 113) hx hb dX7_fillUnder_14 (by decide) (fun c_16 => ?_) (fun c_16 => ?_)
      · replace hm := rc_t hm c_16
        exact hKK v3 v4 σ _ _ _ hm hW hS (lv_sub hl [2, 3] rfl)
      · replace hm := rc_f hm c_16
        refine lv_aload_n hx hb dX7_fillUnder_17 rfl (lv_at hl 0 rfl) ?_
        refine rg_8_0 hx hb hts hown hK hW h0 tw_1_226 dX7_fillUnder_18 ?_
        refine rg_2_1 hx hb hts hown hK hW (rc_t_8_0 hT h0) tw_1_144 dX7_fillUnder_21 ?_
        refine lv_iload hx hb dX7_fillUnder_24 (lv_at hl 4 rfl) ?_
        have hi_1 := (rc_ix hm).1
        replace hm := (rc_ix hm).2
        refine rc_aald hx hb hK hW (rc_t_2_1 hT (rc_t_8_0 hT h0)) (by decide) rfl 4 rfl hi_1 dX7_fillUnder_26 ?_
        refine lv_astore (lv' := [(5, .ref (rf (rf (rf a0 0) 1) v4.toNatClampNeg)), (0, .ref a0), (1, .int v1), (2, .int v2), (3, .int v3), (4, .int v4)]) hx hb dX7_fillUnder_27 hl (by decide) rfl (fun ls hl => ?_)
        refine lv_iload_n hx hb dX7_fillUnder_29 rfl (lv_at hl 4 rfl) ?_
        refine lv_if_le (tgt := 107) hx hb dX7_fillUnder_30 (by decide) (fun c_15 => ?_) (fun c_15 => ?_)
        · replace hm := rc_t hm c_15
          obtain ⟨v4_2, ev⟩ : ∃ y : Int32, y = (v4 + 1) := ⟨_, rfl⟩
          replace hm := rc_lt_at hm ev
          refine lv_iinc (v := v4_2) (lv' := [(4, .int v4_2), (5, .ref (rf (rf (rf a0 0) 1) v4.toNatClampNeg)), (0, .ref a0), (1, .int v1), (2, .int v2), (3, .int v3)]) hx hb dX7_fillUnder_107 hl (k := 5) rfl (by rw [ev]; rfl) (by decide) rfl (fun ls hl => ?_)
          clear ev
          refine lv_goto (tgt := 5) hx hb dX7_fillUnder_110 (by decide) ?_
          exact ih v3 v4_2 σ _ _ _ hm hW hS (lv_sub hl [2, 3, 4, 5, 0] rfl)
        · replace hm := rc_f hm c_15
          refine lv_aload hx hb dX7_fillUnder_33 (lv_at hl 0 rfl) ?_
          refine rg_1_0 hx hb hts hown hK hW (rc_t_25 hT (rc_t_2_1 hT (rc_t_8_0 hT h0)) hi_1) tw_1_86 dX7_fillUnder_35 ?_
          refine lv_iload_n hx hb dX7_fillUnder_38 rfl (lv_at hl 2 rfl) ?_
          refine lv_icmp_ne (tgt := 107) hx hb dX7_fillUnder_39 (by decide) (fun c_14 => ?_) (fun c_14 => ?_)
          · replace hm := rc_f hm c_14
            obtain ⟨v4_3, ev⟩ : ∃ y : Int32, y = (v4 + 1) := ⟨_, rfl⟩
            replace hm := rc_lt_at hm ev
            refine lv_iinc (v := v4_3) (lv' := [(4, .int v4_3), (5, .ref (rf (rf (rf a0 0) 1) v4.toNatClampNeg)), (0, .ref a0), (1, .int v1), (2, .int v2), (3, .int v3)]) hx hb dX7_fillUnder_107 hl (k := 5) rfl (by rw [ev]; rfl) (by decide) rfl (fun ls hl => ?_)
            clear ev
            refine lv_goto (tgt := 5) hx hb dX7_fillUnder_110 (by decide) ?_
            exact ih v3 v4_3 σ _ _ _ hm hW hS (lv_sub hl [2, 3, 4, 5, 0] rfl)
          · replace hm := rc_t hm c_14
            refine lv_aload hx hb dX7_fillUnder_42 (lv_at hl 0 rfl) ?_
            obtain ⟨w_4, σ_4, hc_4, hm0⟩ := rc_bd_inv hm
            clear hm
            refine rc_ci hS (va_runV (As := []) (rest := []) ⟨hx, hb, hml, hown, hts⟩ (k_X0_isEmpty l hT (rf (rf (rf a0 0) 1) v4.toNatClampNeg) (rc_t_25 hT (rc_t_2_1 hT (rc_t_8_0 hT h0)) hi_1) H.size _ _ _ hc_4) (cwV 0 hts (rc_gV tw_3_231 tw_2_239 tw_3_0 tw_1_5 tw_3_1) rfl rfl rfl (by decide +kernel) ⟨Nat.le_of_ble_eq_true rfl, Nat.le_of_ble_eq_true rfl⟩) (rc_preV hT hW hK hE hS (rc_t_25 hT (rc_t_2_1 hT (rc_t_8_0 hT h0)) hi_1) (by decide) rfl (q := (RX0, TX0, 6)) rfl []) rfl rfl hl.1 rfl (lv_room (Nat.le_of_ble_eq_true rfl)) dX7_fillUnder_44 ⟨Nat.le_of_ble_eq_true rfl, Nat.le_of_ble_eq_true rfl⟩) (fun H locs hW hS => ?_)
            have hm := hm0
            clear hm0 hc_4
            refine lv_if_eq (tgt := 107) hx hb dX7_fillUnder_47 (by decide) (fun c_13 => ?_) (fun c_13 => ?_)
            · replace hm := rc_t hm c_13
              obtain ⟨v4_5, ev⟩ : ∃ y : Int32, y = (v4 + 1) := ⟨_, rfl⟩
              replace hm := rc_lt_at hm ev
              refine lv_iinc (v := v4_5) (lv' := [(4, .int v4_5), (5, .ref (rf (rf (rf a0 0) 1) v4.toNatClampNeg)), (0, .ref a0), (1, .int v1), (2, .int v2), (3, .int v3)]) hx hb dX7_fillUnder_107 hl (k := 5) rfl (by rw [ev]; rfl) (by decide) rfl (fun ls hl => ?_)
              clear ev
              refine lv_goto (tgt := 5) hx hb dX7_fillUnder_110 (by decide) ?_
              exact ih v3 v4_5 σ_4 _ _ _ hm hW hS (lv_sub hl [2, 3, 4, 5, 0] rfl)
            · replace hm := rc_f hm c_13
              refine lv_aload hx hb dX7_fillUnder_50 (lv_at hl 0 rfl) ?_
              refine lv_iload_n hx hb dX7_fillUnder_52 rfl (lv_at hl 4 rfl) ?_
              refine lv_bipush (v := 20) hx hb dX7_fillUnder_53 (by decide) ?_
              refine va_mmin hx hb (hml.trans hl.1.symm) hown (hts _ tw_3_232) (hts _ tw_3_31) (hts _ tw_1_22) (hts _ tw_3_32) (Nat.le_of_ble_eq_true rfl) (Nat.le_of_ble_eq_true rfl) (Nat.le_of_ble_eq_true rfl) (Nat.le_of_ble_eq_true rfl) dX7_fillUnder_55 ?_
              refine rp_1_1 hx hb hts hown hK hW hS (rc_t_25 hT (rc_t_2_1 hT (rc_t_8_0 hT h0)) hi_1) tw_1_90 dX7_fillUnder_58 (fun σ_6 H locs eσ hW hS => ?_)
              replace hm := rc_lt_at hm eσ
              clear eσ
              refine lv_aload hx hb dX7_fillUnder_61 (lv_at hl 0 rfl) ?_
              refine lv_aload_n hx hb dX7_fillUnder_63 rfl (lv_at hl 1 rfl) ?_
              refine rg_8_0 hx hb hts hown hK hW h0 tw_1_226 dX7_fillUnder_64 ?_
              refine rg_2_5 hx hb hts hown hK hW (rc_t_8_0 hT h0) tw_1_154 dX7_fillUnder_67 ?_
              refine rp_1_3 hx hb hts hown hK hW hS (rc_t_25 hT (rc_t_2_1 hT (rc_t_8_0 hT h0)) hi_1) tw_1_98 dX7_fillUnder_70 (fun σ_7 H locs eσ hW hS => ?_)
              replace hm := rc_lt_at hm eσ
              clear eσ
              refine lv_aload hx hb dX7_fillUnder_73 (lv_at hl 0 rfl) ?_
              refine lv_aload_n hx hb dX7_fillUnder_75 rfl (lv_at hl 1 rfl) ?_
              refine rg_8_0 hx hb hts hown hK hW h0 tw_1_226 dX7_fillUnder_76 ?_
              refine rg_2_7 hx hb hts hown hK hW (rc_t_8_0 hT h0) tw_1_160 dX7_fillUnder_79 ?_
              refine rp_1_4 hx hb hts hown hK hW hS (rc_t_25 hT (rc_t_2_1 hT (rc_t_8_0 hT h0)) hi_1) tw_1_102 dX7_fillUnder_82 (fun σ_8 H locs eσ hW hS => ?_)
              replace hm := rc_lt_at hm eσ
              clear eσ
              refine lv_aload hx hb dX7_fillUnder_85 (lv_at hl 0 rfl) ?_
              refine lv_aload_n hx hb dX7_fillUnder_87 rfl (lv_at hl 1 rfl) ?_
              refine rg_8_0 hx hb hts hown hK hW h0 tw_1_226 dX7_fillUnder_88 ?_
              refine rg_2_0 hx hb hts hown hK hW (rc_t_8_0 hT h0) tw_1_141 dX7_fillUnder_91 ?_
              refine lv_iload_n hx hb dX7_fillUnder_94 rfl (lv_at hl 2 rfl) ?_
              have hi_9 := (rc_ix hm).1
              replace hm := (rc_ix hm).2
              refine rc_ialdj (j := v1.toNatClampNeg) hx hb hK hW (rc_t_2_0 hT (rc_t_8_0 hT h0)) (by decide) rfl hi_9 rfl dX7_fillUnder_95 ?_
              refine rp_1_5 hx hb hts hown hK hW hS (rc_t_25 hT (rc_t_2_1 hT (rc_t_8_0 hT h0)) hi_1) tw_1_104 dX7_fillUnder_96 (fun σ_10 H locs eσ hW hS => ?_)
              replace hm := rc_lt_at hm eσ
              clear eσ
              refine lv_iload_n hx hb dX7_fillUnder_99 rfl (lv_at hl 4 rfl) ?_
              refine lv_aload hx hb dX7_fillUnder_100 (lv_at hl 0 rfl) ?_
              refine rg_1_1 hx hb hts hown hK hW (rc_t_25 hT (rc_t_2_1 hT (rc_t_8_0 hT h0)) hi_1) tw_1_90 dX7_fillUnder_102 ?_
              refine lv_isub hx hb dX7_fillUnder_105 ?_
              refine lv_topi (fun v3_11 ev => ?_)
              replace hm := rc_lt_at hm ev
              clear ev
              refine lv_istore_n (lv' := [(3, .int v3_11), (5, .ref (rf (rf (rf a0 0) 1) v4.toNatClampNeg)), (0, .ref a0), (1, .int v1), (2, .int v2), (4, .int v4)]) hx hb dX7_fillUnder_106 rfl hl (by decide) rfl (fun ls hl => ?_)
              obtain ⟨v4_12, ev⟩ : ∃ y : Int32, y = (v4 + 1) := ⟨_, rfl⟩
              replace hm := rc_lt_at hm ev
              refine lv_iinc (v := v4_12) (lv' := [(4, .int v4_12), (3, .int v3_11), (5, .ref (rf (rf (rf a0 0) 1) v4.toNatClampNeg)), (0, .ref a0), (1, .int v1), (2, .int v2)]) hx hb dX7_fillUnder_107 hl (k := 5) rfl (by rw [ev]; rfl) (by decide) rfl (fun ls hl => ?_)
              clear ev
              refine lv_goto (tgt := 5) hx hb dX7_fillUnder_110 (by decide) ?_
              exact ih v3_11 v4_12 σ_10 _ _ _ hm hW hS (lv_sub hl [3, 4, 5, 1, 0] rfl)
  unfold f_X7_fillUnder at hm
  refine lv_iload_n hx hb dX7_fillUnder_0 rfl (lv_at hl 2 rfl) ?_
  refine lv_istore_n (lv' := [(3, .int u2), (0, .ref a0), (1, .int u1), (2, .int u2)]) hx hb dX7_fillUnder_1 rfl hl (by decide) rfl (fun ls hl => ?_)
  refine lv_iconst (v := 0) hx hb dX7_fillUnder_2 (by decide) ?_
  refine lv_istore (lv' := [(4, .int (0 : Int32)), (3, .int u2), (0, .ref a0), (1, .int u1), (2, .int u2)]) hx hb dX7_fillUnder_3 hl (by decide) rfl (fun ls hl => ?_)
  refine lp_5 u1 u2 _ (fun v3_17 v4_18 σ_19 H locs ls hm hW hS hl => ?_) rc_fu u2 (0 : Int32) σ _ _ _ hm hW hS (lv_sub hl [2, 3, 4, 1, 0] rfl)
  refine lv_iload_n hx hb dX7_fillUnder_113 rfl (lv_at hl 0 rfl) ?_
  refine lv_iload_n hx hb dX7_fillUnder_114 rfl (lv_at hl 1 rfl) ?_
  refine lv_isub hx hb dX7_fillUnder_115 ?_
  exact rc_eiret hx hb hr hlocks hW hS (Nat.le_of_ble_eq_true rfl) (Nat.le_of_ble_eq_true rfl) hm dX7_fillUnder_116
set_option maxHeartbeats 4000000 in
set_option maxRecDepth 100000 in
theorem k_X7_tell (l : Launch) {Y : rc_Y} {sh : Nat → Nat} {rf : rc_F} (hT : rc_T Y sh rf) (a0 : Nat) (u1 : Int32) (u2 : Int32) (h0 : sh a0 = 8) (sz : Nat) (σ σ' : rc_S) (r : Unit) (hm : f_X7_tell rf a0 u1 u2 σ = some (r, σ')) : Met l yX7_tell (Cond.code yX7_tell cX7_tell 4 none :: rc_big) ({ frames := 2, cells := 0, slots := 0, locals := 43 } : Room) (rc_P Y sh rf σ sz [.ref a0, .int u1, .int u2]) (va_Qv (fun (_ : Unit) => True) (fun _ t => rc_W Y sh rf σ' t.heap) (rc_A sh sz)) 0 0 (rc_A sh sz) := by
  refine Met.ofW (cc := cX7_tell) (maxL := 4) (ret := none) (by decide +kernel) rfl ?_
  intro p e s m args below meth c s₁ B hml hv
  obtain ⟨rfl, hsz, hW, hK, hE⟩ := hv
  have hx := B.exec
  have hb := B.bytes
  have hr := B.returns
  have hts : ∀ w ∈ rc_big, w.before _ s = true := fun w h => atoms_spec (ws := Cond.code yX7_tell cX7_tell 4 none :: rc_big) B.pre w (List.mem_cons_of_mem _ h)
  have hown : s.vm.findClass RX7 = some m.cls := findClass_of_methodNamed B.named
  have hlocks := B.notSynchronized
  clear B
  subst hsz
  have hS : va_S (rc_A sh s.heap.size) s.heap s.heap [] := va_S.rf
  have hl := lv_entry ([.ref a0, .int u1, .int u2]) (n := 4) (Nat.le_of_ble_eq_true rfl)
  rw [lg_entry_eq]
  generalize (lg_sl ([.ref a0, .int u1, .int u2]) ++ List.replicate (4 - (lg_sl ([.ref a0, .int u1, .int u2])).length) Slot.unset).toArray = ls at hl ⊢
  have hl : lv_has ls 4 [(0, .ref a0), (1, .int u1), (2, .int u2)] := hl
  unfold f_X7_tell at hm
  refine lv_aload_n hx hb dX7_tell_0 rfl (lv_at hl 0 rfl) ?_
  refine rg_8_0 hx hb hts hown hK hW h0 tw_1_226 dX7_tell_1 ?_
  refine lv_aload_n hx hb dX7_tell_4 rfl (lv_at hl 0 rfl) ?_
  refine rg_8_0 hx hb hts hown hK hW h0 tw_1_226 dX7_tell_5 ?_
  refine rg_2_5 hx hb hts hown hK hW (rc_t_8_0 hT h0) tw_1_154 dX7_tell_8 ?_
  obtain ⟨w_1, σ_1, hc_1, hm0⟩ := rc_bd_inv hm
  clear hm
  refine rc_cr hS (va_runV (As := [.int (σ (rf a0 0) 5)]) (rest := []) ⟨hx, hb, hml, hown, hts⟩ (k_X1_rainfallOf l hT (rf a0 0) (σ (rf a0 0) 5) (rc_t_8_0 hT h0) s.heap.size _ _ _ hc_1) (cwV 1 hts (rc_gV tw_4_1 tw_4_2 tw_4_3 tw_1_3 tw_4_4) rfl rfl rfl (by decide +kernel) ⟨Nat.le_of_ble_eq_true rfl, Nat.le_of_ble_eq_true rfl⟩) (rc_preV hT hW hK hE hS (rc_t_8_0 hT h0) (by decide) rfl (q := (RX1, TX1, 14)) rfl [.int (σ (rf a0 0) 5)]) rfl rfl hl.1 rfl (lv_room (Nat.le_of_ble_eq_true rfl)) dX7_tell_11 ⟨Nat.le_of_ble_eq_true rfl, Nat.le_of_ble_eq_true rfl⟩) (fun H locs hr_1 hW hS => ?_)
  have hm := hm0
  clear hm0 hc_1
  refine lv_astore_n (lv' := [(3, .ref w_1), (0, .ref a0), (1, .int u1), (2, .int u2)]) hx hb dX7_tell_14 rfl hl (by decide) rfl (fun ls hl => ?_)
  refine lv_aload_n hx hb dX7_tell_15 rfl (lv_at hl 0 rfl) ?_
  refine lv_iload_n hx hb dX7_tell_16 rfl (lv_at hl 2 rfl) ?_
  refine rp_5_0 hx hb hts hown hK hW hS hr_1 tw_1_125 dX7_tell_17 (fun σ_2 H locs eσ hW hS => ?_)
  replace hm := rc_lt_at hm eσ
  clear eσ
  refine lv_aload_n hx hb dX7_tell_20 rfl (lv_at hl 0 rfl) ?_
  refine lv_aload_n hx hb dX7_tell_21 rfl (lv_at hl 1 rfl) ?_
  refine rg_8_0 hx hb hts hown hK hW h0 tw_1_226 dX7_tell_22 ?_
  refine rg_2_7 hx hb hts hown hK hW (rc_t_8_0 hT h0) tw_1_160 dX7_tell_25 ?_
  refine rp_5_1 hx hb hts hown hK hW hS hr_1 tw_1_128 dX7_tell_28 (fun σ_3 H locs eσ hW hS => ?_)
  replace hm := rc_lt_at hm eσ
  clear eσ
  refine lv_aload_n hx hb dX7_tell_31 rfl (lv_at hl 0 rfl) ?_
  refine lv_iload_n hx hb dX7_tell_32 rfl (lv_at hl 3 rfl) ?_
  refine rp_5_2 hx hb hts hown hK hW hS hr_1 tw_1_131 dX7_tell_33 (fun σ_4 H locs eσ hW hS => ?_)
  replace hm := rc_lt_at hm eσ
  clear eσ
  refine lv_aload_n hx hb dX7_tell_36 rfl (lv_at hl 1 rfl) ?_
  refine rg_8_0 hx hb hts hown hK hW h0 tw_1_226 dX7_tell_37 ?_
  refine lv_dup hx hb dX7_tell_40 rfl ?_
  refine rg_2_5 hx hb hts hown hK hW (rc_t_8_0 hT h0) tw_1_154 dX7_tell_41 ?_
  refine lv_iconst (v := 1) hx hb dX7_tell_44 (by decide) ?_
  refine lv_iadd hx hb dX7_tell_45 ?_
  refine rp_2_5 hx hb hts hown hK hW hS (rc_t_8_0 hT h0) tw_1_154 dX7_tell_46 (fun σ_5 H locs eσ hW hS => ?_)
  replace hm := rc_lt_at hm eσ
  clear eσ
  exact rc_evret hx hb hr hlocks hW hS (Nat.le_of_ble_eq_true rfl) (Nat.le_of_ble_eq_true rfl) hm dX7_tell_49
set_option maxHeartbeats 4000000 in
set_option maxRecDepth 100000 in
theorem k_X7_letLeave (l : Launch) {Y : rc_Y} {sh : Nat → Nat} {rf : rc_F} (hT : rc_T Y sh rf) (a0 : Nat) (u1 : Int32) (h0 : sh a0 = 8) (sz : Nat) (σ σ' : rc_S) (r : Int32) (hm : f_X7_letLeave rf a0 u1 σ = some (r, σ')) : Met l yX7_letLeave (Cond.code yX7_letLeave cX7_letLeave 2 (some .int) :: rc_big) ({ frames := 1, cells := 0, slots := 0, locals := 22 } : Room) (rc_P Y sh rf σ sz [.ref a0, .int u1]) (va_Qi (fun (r' : Int32) (_ : Unit) => r' = r) (fun _ t => rc_W Y sh rf σ' t.heap) (rc_A sh sz)) 0 0 (rc_A sh sz) := by
  refine Met.ofW (cc := cX7_letLeave) (maxL := 2) (ret := (some .int)) (by decide +kernel) rfl ?_
  intro p e s m args below meth c s₁ B hml hv
  obtain ⟨rfl, hsz, hW, hK, hE⟩ := hv
  have hx := B.exec
  have hb := B.bytes
  have hr := B.returns
  have hts : ∀ w ∈ rc_big, w.before _ s = true := fun w h => atoms_spec (ws := Cond.code yX7_letLeave cX7_letLeave 2 (some .int) :: rc_big) B.pre w (List.mem_cons_of_mem _ h)
  have hown : s.vm.findClass RX7 = some m.cls := findClass_of_methodNamed B.named
  have hlocks := B.notSynchronized
  clear B
  subst hsz
  have hS : va_S (rc_A sh s.heap.size) s.heap s.heap [] := va_S.rf
  have hl := lv_entry ([.ref a0, .int u1]) (n := 2) (Nat.le_of_ble_eq_true rfl)
  rw [lg_entry_eq]
  generalize (lg_sl ([.ref a0, .int u1]) ++ List.replicate (2 - (lg_sl ([.ref a0, .int u1])).length) Slot.unset).toArray = ls at hl ⊢
  have hl : lv_has ls 2 [(0, .ref a0), (1, .int u1)] := hl
  unfold f_X7_letLeave at hm
  refine lv_aload_n hx hb dX7_letLeave_0 rfl (lv_at hl 0 rfl) ?_
  refine rg_8_0 hx hb hts hown hK hW h0 tw_1_226 dX7_letLeave_1 ?_
  refine rg_2_3 hx hb hts hown hK hW (rc_t_8_0 hT h0) tw_1_150 dX7_letLeave_4 ?_
  refine lv_iload_n hx hb dX7_letLeave_7 rfl (lv_at hl 1 rfl) ?_
  obtain ⟨w_1, σ_1, hc_1, hm0⟩ := rc_bd_inv hm
  clear hm
  refine rc_ci hS (va_runV (As := [.int u1]) (rest := []) ⟨hx, hb, hml, hown, hts⟩ (k_X3_has l hT (rf (rf a0 0) 3) u1 (rc_t_2_3 hT (rc_t_8_0 hT h0)) s.heap.size _ _ _ hc_1) (cwV 1 hts (rc_gV tw_4_40 tw_4_41 tw_4_42 tw_1_4 tw_4_43) rfl rfl rfl (by decide +kernel) ⟨Nat.le_of_ble_eq_true rfl, Nat.le_of_ble_eq_true rfl⟩) (rc_preV hT hW hK hE hS (rc_t_2_3 hT (rc_t_8_0 hT h0)) (by decide) rfl (q := (RX3, TX3, 3)) rfl [.int u1]) rfl rfl hl.1 rfl (lv_room (Nat.le_of_ble_eq_true rfl)) dX7_letLeave_8 ⟨Nat.le_of_ble_eq_true rfl, Nat.le_of_ble_eq_true rfl⟩) (fun H locs hW hS => ?_)
  have hm := hm0
  clear hm0 hc_1
  refine lv_if_ne (tgt := 33) hx hb dX7_letLeave_11 (by decide) (fun c_4 => ?_) (fun c_4 => ?_)
  · replace hm := rc_f hm c_4
    refine lv_aload_n hx hb dX7_letLeave_33 rfl (lv_at hl 0 rfl) ?_
    refine rg_8_0 hx hb hts hown hK hW h0 tw_1_226 dX7_letLeave_34 ?_
    refine rg_2_3 hx hb hts hown hK hW (rc_t_8_0 hT h0) tw_1_150 dX7_letLeave_37 ?_
    refine lv_iload_n hx hb dX7_letLeave_40 rfl (lv_at hl 1 rfl) ?_
    obtain ⟨w_2, σ_2, hc_2, hm0⟩ := rc_bd_inv hm
    clear hm
    refine rc_cv hS (va_runV (As := [.int u1]) (rest := []) ⟨hx, hb, hml, hown, hts⟩ (k_X3_remove l hT (rf (rf a0 0) 3) u1 (rc_t_2_3 hT (rc_t_8_0 hT h0)) H.size _ _ _ hc_2) (cwV 1 hts (rc_gV tw_4_44 tw_4_45 tw_4_46 tw_1_4 tw_4_47) rfl rfl rfl (by decide +kernel) ⟨Nat.le_of_ble_eq_true rfl, Nat.le_of_ble_eq_true rfl⟩) (rc_preV hT hW hK hE hS (rc_t_2_3 hT (rc_t_8_0 hT h0)) (by decide) rfl (q := (RX3, TX3, 3)) rfl [.int u1]) rfl rfl hl.1 rfl (lv_room (Nat.le_of_ble_eq_true rfl)) dX7_letLeave_41 ⟨Nat.le_of_ble_eq_true rfl, Nat.le_of_ble_eq_true rfl⟩) (fun H locs hW hS => ?_)
    have hm := hm0
    clear hm0 hc_2
    refine lv_aload_n hx hb dX7_letLeave_44 rfl (lv_at hl 0 rfl) ?_
    refine rg_8_0 hx hb hts hown hK hW h0 tw_1_226 dX7_letLeave_45 ?_
    refine rg_2_3 hx hb hts hown hK hW (rc_t_8_0 hT h0) tw_1_150 dX7_letLeave_48 ?_
    refine rg_4_2 hx hb hts hown hK hW (rc_t_2_3 hT (rc_t_8_0 hT h0)) tw_1_67 dX7_letLeave_51 ?_
    exact rc_eiret hx hb hr hlocks hW hS (Nat.le_of_ble_eq_true rfl) (Nat.le_of_ble_eq_true rfl) hm dX7_letLeave_54
  · replace hm := rc_t hm c_4
    refine lv_aload_n hx hb dX7_letLeave_14 rfl (lv_at hl 0 rfl) ?_
    refine rg_8_1 hx hb hts hown hK hW h0 tw_1_228 dX7_letLeave_15 ?_
    refine lv_iconst (v := 4) hx hb dX7_letLeave_18 (by decide) ?_
    refine lv_aload_n hx hb dX7_letLeave_19 rfl (lv_at hl 0 rfl) ?_
    refine rg_8_0 hx hb hts hown hK hW h0 tw_1_226 dX7_letLeave_20 ?_
    refine rg_2_3 hx hb hts hown hK hW (rc_t_8_0 hT h0) tw_1_150 dX7_letLeave_23 ?_
    refine rg_4_2 hx hb hts hown hK hW (rc_t_2_3 hT (rc_t_8_0 hT h0)) tw_1_67 dX7_letLeave_26 ?_
    obtain ⟨w_3, σ_3, hc_3, hm0⟩ := rc_bd_inv hm
    clear hm
    refine rc_ci hS (va_runV (As := [.int (4 : Int32), .int (σ_1 (rf (rf a0 0) 3) 2)]) (rest := []) ⟨hx, hb, hml, hown, hts⟩ (k_X5_because l hT (rf a0 1) (4 : Int32) (σ_1 (rf (rf a0 0) 3) 2) (rc_t_8_1 hT h0) H.size _ _ _ hc_3) (cwV 2 hts (rc_gV tw_3_180 tw_3_181 tw_3_182 tw_1_7 tw_3_183) rfl rfl rfl (by decide +kernel) ⟨Nat.le_of_ble_eq_true rfl, Nat.le_of_ble_eq_true rfl⟩) (rc_preV hT hW hK hE hS (rc_t_8_1 hT h0) (by decide) rfl (q := (RX5, TX5, 3)) rfl [.int (4 : Int32), .int (σ_1 (rf (rf a0 0) 3) 2)]) rfl rfl hl.1 rfl (lv_room (Nat.le_of_ble_eq_true rfl)) dX7_letLeave_29 ⟨Nat.le_of_ble_eq_true rfl, Nat.le_of_ble_eq_true rfl⟩) (fun H locs hW hS => ?_)
    have hm := hm0
    clear hm0 hc_3
    exact rc_eiret hx hb hr hlocks hW hS (Nat.le_of_ble_eq_true rfl) (Nat.le_of_ble_eq_true rfl) hm dX7_letLeave_32
