def f_X3_add (rf : rc_F) (a0 : Nat) (u1 : Int32) (u2 : Int32) (σ : rc_S) : Option (Unit × rc_S) :=
  rc_ck (rc_in (σ a0 2) 4) <|
  rc_lt (rc_up σ (rf a0 0) (σ a0 2).toNatClampNeg u1) fun σ_2 =>
  rc_ck (rc_in (σ_2 a0 2) 4) <|
  rc_lt (rc_up σ_2 (rf a0 1) (σ_2 a0 2).toNatClampNeg (vp_nar .boolean u2)) fun σ_4 =>
  rc_lt (rc_up σ_4 a0 2 ((σ_4 a0 2) + (1 : Int32))) fun σ_5 =>
  some ((), σ_5)
def f_X3_remove_2 (rf : rc_F) (a0 : Nat) (K : Int32 → rc_S → Option (Unit × rc_S)) : Nat → Int32 → rc_S → Option (Unit × rc_S)
  | 0, _, _ => none
  | n + 1, v2, σ =>
    if (σ a0 2) ≤ (v2 + (1 : Int32)) then
      K v2 σ
    else
      rc_ck (rc_in (v2 + (1 : Int32)) 4) <|
      rc_ck (rc_in v2 4) <|
      rc_lt (rc_up σ (rf a0 0) v2.toNatClampNeg (σ (rf a0 0) (v2 + (1 : Int32)).toNatClampNeg)) fun σ_3 =>
      rc_ck (rc_in (v2 + (1 : Int32)) 4) <|
      rc_ck (rc_in v2 4) <|
      rc_lt (rc_up σ_3 (rf a0 1) v2.toNatClampNeg (vp_nar .boolean (σ_3 (rf a0 1) (v2 + (1 : Int32)).toNatClampNeg))) fun σ_6 =>
      rc_lt (v2 + 1) fun v2_7 =>
      f_X3_remove_2 rf a0 K n v2_7 σ_6
def f_X3_remove (rf : rc_F) (a0 : Nat) (u1 : Int32) (σ : rc_S) : Option (Unit × rc_S) :=
  f_X3_remove_2 rf a0 (fun v2_9 σ_10 =>
    rc_lt (rc_up σ_10 a0 2 ((σ_10 a0 2) - (1 : Int32))) fun σ_11 =>
    some ((), σ_11)
  ) rc_fu u1 σ
def f_X3_mildPalate (rf : rc_F) (a0 : Nat) (u1 : Int32) (σ : rc_S) : Option (Int32 × rc_S) :=
  rc_ck (rc_in u1 4) <|
  rc_ck (rc_in u1 4) <|
  if (σ (rf a0 1) u1.toNatClampNeg) = 0 then
    some (((σ (rf a0 0) u1.toNatClampNeg) + (0 : Int32)), σ)
  else
    some (((σ (rf a0 0) u1.toNatClampNeg) + (2 : Int32)), σ)
def f_X3_doesPalateNotice (rf : rc_F) (u0 : Int32) (u1 : Int32) (σ : rc_S) : Option (Int32 × rc_S) :=
  if u1 ≤ 0 then
    some ((0 : Int32), σ)
  else
    if u1 ≤ ((50 : Int32) - ((5 : Int32) * u0)) then
      some ((0 : Int32), σ)
    else
      some ((1 : Int32), σ)
def f_X4_copy (rf : rc_F) (a0 : Nat) (q1 : Nat) (σ : rc_S) : Option (Unit × rc_S) :=
  rc_lt (rc_up σ a0 0 (σ q1 0)) fun σ_1 =>
  rc_lt (rc_up σ_1 a0 1 (σ_1 q1 1)) fun σ_2 =>
  rc_lt (rc_up σ_2 a0 2 (σ_2 q1 2)) fun σ_3 =>
  some ((), σ_3)
def f_X5_because (rf : rc_F) (a0 : Nat) (u1 : Int32) (u2 : Int32) (σ : rc_S) : Option (Int32 × rc_S) :=
  rc_lt (rc_up σ a0 0 u1) fun σ_1 =>
  rc_lt (rc_up σ_1 a0 1 u2) fun σ_2 =>
  rc_lt (rc_up σ_2 a0 2 (0 : Int32)) fun σ_3 =>
  some ((-1 : Int32), σ_3)
def f_X6_add (rf : rc_F) (a0 : Nat) (u1 : Int32) (σ : rc_S) : Option (Unit × rc_S) :=
  rc_ck (rc_in (σ a0 1) 60) <|
  rc_lt (rc_up σ (rf a0 0) (σ a0 1).toNatClampNeg (vp_nar .char u1)) fun σ_2 =>
  rc_lt (rc_up σ_2 a0 1 ((σ_2 a0 1) + (1 : Int32))) fun σ_3 =>
  some ((), σ_3)
def f_X6_makeEmpty (rf : rc_F) (a0 : Nat) (σ : rc_S) : Option (Unit × rc_S) :=
  rc_lt (rc_up σ a0 1 (0 : Int32)) fun σ_1 =>
  some ((), σ_1)
def f_X6_numberOf (rf : rc_F) (a0 : Nat) (u1 : Int32) (u2 : Int32) (σ : rc_S) : Option (Int32 × rc_S) :=
  rc_ck (rc_in ((u1 * (3 : Int32)) + u2) 180) <|
  some ((σ (rf a0 3) ((u1 * (3 : Int32)) + u2).toNatClampNeg), σ)
def f_X6_formOf (rf : rc_F) (u0 : Int32) (σ : rc_S) : Option (Nat × rc_S) :=
  if u0 = (98 : Int32) then
    some (4, σ)
  else
  if u0 = (99 : Int32) then
    some (4, σ)
  else
  if u0 = (103 : Int32) then
    some (4, σ)
  else
  if u0 = (104 : Int32) then
    some (2, σ)
  else
  if u0 = (108 : Int32) then
    some (4, σ)
  else
  if u0 = (109 : Int32) then
    some (4, σ)
  else
  if u0 = (112 : Int32) then
    some (1, σ)
  else
  if u0 = (115 : Int32) then
    some (0, σ)
  else
  if u0 = (116 : Int32) then
    some (4, σ)
  else
  if u0 = (120 : Int32) then
    some (4, σ)
  else
  if u0 = (121 : Int32) then
    some (3, σ)
  else
  some (5, σ)
def f_X6_readSign (rf : rc_F) (a0 : Nat) (u1 : Int32) (σ : rc_S) : Option (Int32 × rc_S) :=
  if (σ a0 1) ≤ (σ a0 5) then
    some ((0 : Int32), σ)
  else
    rc_ck (rc_in (σ a0 5) 60) <|
    if (σ (rf a0 0) (σ a0 5).toNatClampNeg) = u1 then
      rc_lt (rc_up σ a0 5 ((σ a0 5) + (1 : Int32))) fun σ_2 =>
      some ((1 : Int32), σ_2)
    else
      some ((0 : Int32), σ)
def f_X6_readNumber_4 (rf : rc_F) (a0 : Nat) (v1 : Int32) (K : Int32 → Int32 → rc_S → Option (Int32 × rc_S)) : Nat → Int32 → Int32 → rc_S → Option (Int32 × rc_S)
  | 0, _, _, _ => none
  | n + 1, v2, v3, σ =>
    if v1 ≤ v3 then
      K v2 v3 σ
    else
      if (σ a0 1) ≤ (σ a0 5) then
        K v2 v3 σ
      else
        rc_ck (rc_in (σ a0 5) 60) <|
        if (σ (rf a0 0) (σ a0 5).toNatClampNeg) < (48 : Int32) then
          K v2 v3 σ
        else
          rc_ck (rc_in (σ a0 5) 60) <|
          if (57 : Int32) < (σ (rf a0 0) (σ a0 5).toNatClampNeg) then
            K v2 v3 σ
          else
            rc_ck (rc_in (σ a0 5) 60) <|
            rc_lt (((10 : Int32) * v2) + ((σ (rf a0 0) (σ a0 5).toNatClampNeg) - (48 : Int32))) fun v2_4 =>
            rc_lt (v3 + 1) fun v3_5 =>
            rc_lt (rc_up σ a0 5 ((σ a0 5) + (1 : Int32))) fun σ_6 =>
            f_X6_readNumber_4 rf a0 v1 K n v2_4 v3_5 σ_6
def f_X6_readNumber (rf : rc_F) (a0 : Nat) (u1 : Int32) (σ : rc_S) : Option (Int32 × rc_S) :=
  f_X6_readNumber_4 rf a0 u1 (fun v2_11 v3_12 σ_13 =>
    if v3_12 = 0 then
      some ((0 : Int32), σ_13)
    else
      rc_ck (rc_in (((σ_13 a0 4) * (3 : Int32)) + (σ_13 a0 6)) 180) <|
      rc_lt (rc_up σ_13 (rf a0 3) (((σ_13 a0 4) * (3 : Int32)) + (σ_13 a0 6)).toNatClampNeg v2_11) fun σ_15 =>
      rc_lt (rc_up σ_15 a0 6 ((σ_15 a0 6) + (1 : Int32))) fun σ_16 =>
      some ((1 : Int32), σ_16)
  ) rc_fu (0 : Int32) (0 : Int32) σ
def f_X7_fillUnder_5 (rf : rc_F) (a0 : Nat) (v1 : Int32) (v2 : Int32) (K : Int32 → Int32 → rc_S → Option (Int32 × rc_S)) : Nat → Int32 → Int32 → rc_S → Option (Int32 × rc_S)
  | 0, _, _, _ => none
  | n + 1, v3, v4, σ =>
    if (σ (rf a0 0) 2) ≤ v4 then
      K v3 v4 σ
    else
      rc_ck (rc_in v4 8) <|
      if v3 ≤ 0 then
        rc_lt (v4 + 1) fun v4_2 =>
        f_X7_fillUnder_5 rf a0 v1 v2 K n v3 v4_2 σ
      else
        if (σ (rf (rf (rf a0 0) 1) v4.toNatClampNeg) 0) = v1 then
          rc_bd (f_X0_isEmpty rf (rf (rf (rf a0 0) 1) v4.toNatClampNeg) σ) fun w_4 σ_4 =>
          if w_4 = 0 then
            rc_lt (v4 + 1) fun v4_5 =>
            f_X7_fillUnder_5 rf a0 v1 v2 K n v3 v4_5 σ_4
          else
            rc_lt (rc_up σ_4 (rf (rf (rf a0 0) 1) v4.toNatClampNeg) 1 (if (20 : Int32) < v3 then (20 : Int32) else v3)) fun σ_6 =>
            rc_lt (rc_up σ_6 (rf (rf (rf a0 0) 1) v4.toNatClampNeg) 3 (σ_6 (rf a0 0) 5)) fun σ_7 =>
            rc_lt (rc_up σ_7 (rf (rf (rf a0 0) 1) v4.toNatClampNeg) 4 (σ_7 (rf a0 0) 7)) fun σ_8 =>
            rc_ck (rc_in v1 4) <|
            rc_lt (rc_up σ_8 (rf (rf (rf a0 0) 1) v4.toNatClampNeg) 5 (σ_8 (rf (rf a0 0) 0) v1.toNatClampNeg)) fun σ_10 =>
            rc_lt (v3 - (σ_10 (rf (rf (rf a0 0) 1) v4.toNatClampNeg) 1)) fun v3_11 =>
            rc_lt (v4 + 1) fun v4_12 =>
            f_X7_fillUnder_5 rf a0 v1 v2 K n v3_11 v4_12 σ_10
        else
          rc_lt (v4 + 1) fun v4_3 =>
          f_X7_fillUnder_5 rf a0 v1 v2 K n v3 v4_3 σ
def f_X7_fillUnder (rf : rc_F) (a0 : Nat) (u1 : Int32) (u2 : Int32) (σ : rc_S) : Option (Int32 × rc_S) :=
  f_X7_fillUnder_5 rf a0 u1 u2 (fun v3_17 v4_18 σ_19 =>
    some ((u2 - v3_17), σ_19)
  ) rc_fu u2 (0 : Int32) σ
def f_X7_tell (rf : rc_F) (a0 : Nat) (u1 : Int32) (u2 : Int32) (σ : rc_S) : Option (Unit × rc_S) :=
  rc_bd (f_X1_rainfallOf rf (rf a0 0) (σ (rf a0 0) 5) σ) fun w_1 σ_1 =>
  rc_lt (rc_up σ_1 w_1 0 u1) fun σ_2 =>
  rc_lt (rc_up σ_2 w_1 1 (σ_2 (rf a0 0) 7)) fun σ_3 =>
  rc_lt (rc_up σ_3 w_1 2 u2) fun σ_4 =>
  rc_lt (rc_up σ_4 (rf a0 0) 5 ((σ_4 (rf a0 0) 5) + (1 : Int32))) fun σ_5 =>
  some ((), σ_5)
def f_X7_letLeave (rf : rc_F) (a0 : Nat) (u1 : Int32) (σ : rc_S) : Option (Int32 × rc_S) :=
  rc_bd (f_X3_has rf (rf (rf a0 0) 3) u1 σ) fun w_1 σ_1 =>
  if w_1 = 0 then
    rc_bd (f_X5_because rf (rf a0 1) (4 : Int32) (σ_1 (rf (rf a0 0) 3) 2) σ_1) fun w_3 σ_3 =>
    some (w_3, σ_3)
  else
    rc_bd (f_X3_remove rf (rf (rf a0 0) 3) u1 σ_1) fun _ σ_2 =>
    some ((σ_2 (rf (rf a0 0) 3) 2), σ_2)
def f_X7_letYearGoBy_10 (rf : rc_F) (a0 : Nat) (v1 : Int32) (K : Int32 → rc_S → Option (Int32 × rc_S)) : Nat → Int32 → rc_S → Option (Int32 × rc_S)
  | 0, _, _ => none
  | n + 1, v2, σ =>
    if (4 : Int32) ≤ v2 then
      K v2 σ
    else
      rc_ck (rc_in v2 4) <|
      rc_ck (rc_in v2 4) <|
      rc_lt (rc_up σ (rf (rf a0 0) 0) v2.toNatClampNeg (if (9 : Int32) < ((σ (rf (rf a0 0) 0) v2.toNatClampNeg) + (1 : Int32)) then (9 : Int32) else ((σ (rf (rf a0 0) 0) v2.toNatClampNeg) + (1 : Int32)))) fun σ_4 =>
      rc_lt (v2 + 1) fun v2_5 =>
      f_X7_letYearGoBy_10 rf a0 v1 K n v2_5 σ_4
def f_X7_letYearGoBy (rf : rc_F) (a0 : Nat) (σ : rc_S) : Option (Int32 × rc_S) :=
  rc_lt (σ (rf a0 0) 6) fun v1_1 =>
  f_X7_letYearGoBy_10 rf a0 v1_1 (fun v2_7 σ_8 =>
    rc_lt (rc_up σ_8 (rf a0 0) 6 (0 : Int32)) fun σ_9 =>
    rc_lt (rc_up σ_9 (rf a0 0) 7 ((σ_9 (rf a0 0) 7) + (1 : Int32))) fun σ_10 =>
    some (v1_1, σ_10)
  ) rc_fu (0 : Int32) σ
def f_X8_stormOf (rf : rc_F) (a0 : Nat) (u1 : Int32) (u2 : Int32) (σ : rc_S) : Option (Nat × Int32 × rc_S) :=
  rc_bd (f_X1_isLateStorm rf (rf a0 1) u1 σ) fun w_1 σ_1 =>
  if w_1 = 0 then
    some (4, (0 : Int32), σ_1)
  else
    rc_bd (f_X1_rainfallOf rf (rf a0 1) u1 σ_1) fun w_2 σ_2 =>
    if u2 = (0 : Int32) then
      some (0, (σ_2 w_2 0), σ_2)
    else
    if u2 = (1 : Int32) then
      some (0, (σ_2 w_2 1), σ_2)
    else
    if u2 = (2 : Int32) then
      some (0, (σ_2 w_2 2), σ_2)
    else
    some (3, (0 : Int32), σ_2)
def f_X8_isEven (rf : rc_F) (a0 : Nat) (σ : rc_S) : Option (Int32 × rc_S) :=
  rc_bd (f_X1_litresInBarrels rf (rf a0 1) σ) fun w_1 σ_1 =>
  if ((σ (rf a0 1) 8) + (σ (rf a0 1) 9)) = ((w_1 + (σ_1 (rf a0 1) 11)) + (σ_1 (rf a0 1) 12)) then
    some ((1 : Int32), σ_1)
  else
    some ((0 : Int32), σ_1)
def f_X8_append (rf : rc_F) (a0 : Nat) (u1 : Int32) (σ : rc_S) : Option (Nat × Int32 × rc_S) :=
  if (σ (rf a0 6) 1) < (60 : Int32) then
    rc_bd (f_X6_add rf (rf a0 6) u1 σ) fun _ σ_1 =>
    some (0, (σ_1 (rf a0 6) 1), σ_1)
  else
    some (5, (0 : Int32), σ)
def f_X8_faultPosition (rf : rc_F) (a0 : Nat) (σ : rc_S) : Option (Int32 × rc_S) :=
  some ((σ a0 7), σ)
set_option maxHeartbeats 4000000 in
set_option maxRecDepth 100000 in
theorem k_X3_add (l : Launch) {Y : rc_Y} {sh : Nat → Nat} {rf : rc_F} (hT : rc_T Y sh rf) (a0 : Nat) (u1 : Int32) (u2 : Int32) (h0 : sh a0 = 4) (sz : Nat) (σ σ' : rc_S) (r : Unit) (hm : f_X3_add rf a0 u1 u2 σ = some (r, σ')) : Met l yX3_add (Cond.code yX3_add cX3_add 3 none :: rc_big) ({ frames := 0, cells := 0, slots := 0, locals := 0 } : Room) (rc_P Y sh rf σ sz [.ref a0, .int u1, .int u2]) (va_Qv (fun (_ : Unit) => True) (fun _ t => rc_W Y sh rf σ' t.heap) (rc_A sh sz)) 0 0 (rc_A sh sz) := by
  refine Met.ofW (cc := cX3_add) (maxL := 3) (ret := none) (by decide +kernel) rfl ?_
  intro p e s m args below meth c s₁ B hml hv
  obtain ⟨rfl, hsz, hW, hK, hE⟩ := hv
  have hx := B.exec
  have hb := B.bytes
  have hr := B.returns
  have hts : ∀ w ∈ rc_big, w.before _ s = true := fun w h => atoms_spec (ws := Cond.code yX3_add cX3_add 3 none :: rc_big) B.pre w (List.mem_cons_of_mem _ h)
  have hown : s.vm.findClass RX3 = some m.cls := findClass_of_methodNamed B.named
  have hlocks := B.notSynchronized
  clear B
  subst hsz
  have hS : va_S (rc_A sh s.heap.size) s.heap s.heap [] := va_S.rf
  have hl := lv_entry ([.ref a0, .int u1, .int u2]) (n := 3) (Nat.le_of_ble_eq_true rfl)
  rw [lg_entry_eq]
  generalize (lg_sl ([.ref a0, .int u1, .int u2]) ++ List.replicate (3 - (lg_sl ([.ref a0, .int u1, .int u2])).length) Slot.unset).toArray = ls at hl ⊢
  have hl : lv_has ls 3 [(0, .ref a0), (1, .int u1), (2, .int u2)] := hl
  unfold f_X3_add at hm
  refine lv_aload_n hx hb dX3_add_0 rfl (lv_at hl 0 rfl) ?_
  refine rg_4_0 hx hb hts hown hK hW h0 tw_1_62 dX3_add_1 ?_
  refine lv_aload_n hx hb dX3_add_4 rfl (lv_at hl 0 rfl) ?_
  refine rg_4_2 hx hb hts hown hK hW h0 tw_1_66 dX3_add_5 ?_
  refine lv_iload_n hx hb dX3_add_8 rfl (lv_at hl 1 rfl) ?_
  have hi_1 := (rc_ix hm).1
  replace hm := (rc_ix hm).2
  refine rc_iastj (j := (σ a0 2).toNatClampNeg) hx hb hK hW hS (rc_t_4_0 hT h0) (by decide) (fun _ => rfl) hi_1 rfl dX3_add_9 (fun σ_2 H locs eσ hW hS => ?_)
  replace hm := rc_lt_at hm eσ
  clear eσ
  refine lv_aload_n hx hb dX3_add_10 rfl (lv_at hl 0 rfl) ?_
  refine rg_4_1 hx hb hts hown hK hW h0 tw_1_64 dX3_add_11 ?_
  refine lv_aload_n hx hb dX3_add_14 rfl (lv_at hl 0 rfl) ?_
  refine rg_4_2 hx hb hts hown hK hW h0 tw_1_66 dX3_add_15 ?_
  refine lv_iload_n hx hb dX3_add_18 rfl (lv_at hl 2 rfl) ?_
  have hi_3 := (rc_ix hm).1
  replace hm := (rc_ix hm).2
  refine rc_zastj (j := (σ_2 a0 2).toNatClampNeg) hx hb hK hW hS (rc_t_4_1 hT h0) (by decide) (fun _ => rfl) hi_3 rfl dX3_add_19 (fun σ_4 H locs eσ hW hS => ?_)
  replace hm := rc_lt_at hm eσ
  clear eσ
  refine lv_aload_n hx hb dX3_add_20 rfl (lv_at hl 0 rfl) ?_
  refine lv_dup hx hb dX3_add_21 rfl ?_
  refine rg_4_2 hx hb hts hown hK hW h0 tw_1_66 dX3_add_22 ?_
  refine lv_iconst (v := 1) hx hb dX3_add_25 (by decide) ?_
  refine lv_iadd hx hb dX3_add_26 ?_
  refine rp_4_2 hx hb hts hown hK hW hS h0 tw_1_66 dX3_add_27 (fun σ_5 H locs eσ hW hS => ?_)
  replace hm := rc_lt_at hm eσ
  clear eσ
  exact rc_evret hx hb hr hlocks hW hS (Nat.le_of_ble_eq_true rfl) (Nat.le_of_ble_eq_true rfl) hm dX3_add_30
set_option maxHeartbeats 4000000 in
set_option maxRecDepth 100000 in
theorem k_X3_remove (l : Launch) {Y : rc_Y} {sh : Nat → Nat} {rf : rc_F} (hT : rc_T Y sh rf) (a0 : Nat) (u1 : Int32) (h0 : sh a0 = 4) (sz : Nat) (σ σ' : rc_S) (r : Unit) (hm : f_X3_remove rf a0 u1 σ = some (r, σ')) : Met l yX3_remove (Cond.code yX3_remove cX3_remove 3 none :: rc_big) ({ frames := 0, cells := 0, slots := 0, locals := 0 } : Room) (rc_P Y sh rf σ sz [.ref a0, .int u1]) (va_Qv (fun (_ : Unit) => True) (fun _ t => rc_W Y sh rf σ' t.heap) (rc_A sh sz)) 0 0 (rc_A sh sz) := by
  refine Met.ofW (cc := cX3_remove) (maxL := 3) (ret := none) (by decide +kernel) rfl ?_
  intro p e s m args below meth c s₁ B hml hv
  obtain ⟨rfl, hsz, hW, hK, hE⟩ := hv
  have hx := B.exec
  have hb := B.bytes
  have hr := B.returns
  have hts : ∀ w ∈ rc_big, w.before _ s = true := fun w h => atoms_spec (ws := Cond.code yX3_remove cX3_remove 3 none :: rc_big) B.pre w (List.mem_cons_of_mem _ h)
  have hown : s.vm.findClass RX3 = some m.cls := findClass_of_methodNamed B.named
  have hlocks := B.notSynchronized
  clear B
  subst hsz
  have hS : va_S (rc_A sh s.heap.size) s.heap s.heap [] := va_S.rf
  have hl := lv_entry ([.ref a0, .int u1]) (n := 3) (Nat.le_of_ble_eq_true rfl)
  rw [lg_entry_eq]
  generalize (lg_sl ([.ref a0, .int u1]) ++ List.replicate (3 - (lg_sl ([.ref a0, .int u1])).length) Slot.unset).toArray = ls at hl ⊢
  have hl : lv_has ls 3 [(0, .ref a0), (1, .int u1)] := hl
  have lp_2 : ∀ (K : Int32 → rc_S → Option (Unit × rc_S)) (hKK : ∀ (v2 : Int32) (σ : rc_S) (H : Heap) (locs : List Loc) (ls : Array Slot), K v2 σ = some (r, σ') → rc_W Y sh rf σ H → va_S (rc_A sh s.heap.size) s.heap H locs → lv_has ls 3 [(0, .ref a0)] → W p l e (headSpec (Cond.code yX3_remove cX3_remove 3 none :: rc_big) ({ frames := 0, cells := 0, slots := 0, locals := 0 } : Room)).room s m (([.ref a0, .int u1] : List Value).toArray) below meth c H locs 0 0 (MQ below (va_Qv (fun (_ : Unit) => True) (fun _ t => rc_W Y sh rf σ' t.heap) (rc_A sh s.heap.size)) ([.ref a0, .int u1] : List Value).toArray s 0 0 (rc_A sh s.heap.size)) (F0 m 46 ls [])) (n : Nat) (v2 : Int32) (σ : rc_S) (H : Heap) (locs : List Loc) (ls : Array Slot), f_X3_remove_2 rf a0 K n v2 σ = some (r, σ') → rc_W Y sh rf σ H → va_S (rc_A sh s.heap.size) s.heap H locs → lv_has ls 3 [(0, .ref a0), (2, .int v2)] → W p l e (headSpec (Cond.code yX3_remove cX3_remove 3 none :: rc_big) ({ frames := 0, cells := 0, slots := 0, locals := 0 } : Room)).room s m (([.ref a0, .int u1] : List Value).toArray) below meth c H locs 0 0 (MQ below (va_Qv (fun (_ : Unit) => True) (fun _ t => rc_W Y sh rf σ' t.heap) (rc_A sh s.heap.size)) ([.ref a0, .int u1] : List Value).toArray s 0 0 (rc_A sh s.heap.size)) (F0 m 2 ls []) := by
    intro  K hKK n
    induction n with
    | zero =>
      intro v2 σ H locs ls hm
      rw [f_X3_remove_2] at hm
      cases hm
    | succ n ih =>
      intro v2 σ H locs ls hm hW hS hl
      rw [f_X3_remove_2] at hm
      refine lv_iload_n hx hb dX3_remove_2 rfl (lv_at hl 1 rfl) ?_
      refine lv_iconst (v := 1) hx hb dX3_remove_3 (by decide) ?_
      refine lv_iadd hx hb dX3_remove_4 ?_
      refine lv_aload_n hx hb dX3_remove_5 rfl (lv_at hl 0 rfl) ?_
      refine rg_4_2 hx hb hts hown hK hW h0 tw_1_66 dX3_remove_6 ?_
      refine lv_icmp_ge (tgt := 46) hx hb dX3_remove_9 (by decide) (fun c_8 => ?_) (fun c_8 => ?_)
      · replace hm := rc_t hm c_8
        exact hKK v2 σ _ _ _ hm hW hS (lv_sub hl [0] rfl)
      · replace hm := rc_f hm c_8
        refine lv_aload_n hx hb dX3_remove_12 rfl (lv_at hl 0 rfl) ?_
        refine rg_4_0 hx hb hts hown hK hW h0 tw_1_62 dX3_remove_13 ?_
        refine lv_iload_n hx hb dX3_remove_16 rfl (lv_at hl 1 rfl) ?_
        refine lv_aload_n hx hb dX3_remove_17 rfl (lv_at hl 0 rfl) ?_
        refine rg_4_0 hx hb hts hown hK hW h0 tw_1_62 dX3_remove_18 ?_
        refine lv_iload_n hx hb dX3_remove_21 rfl (lv_at hl 1 rfl) ?_
        refine lv_iconst (v := 1) hx hb dX3_remove_22 (by decide) ?_
        refine lv_iadd hx hb dX3_remove_23 ?_
        have hi_1 := (rc_ix hm).1
        replace hm := (rc_ix hm).2
        refine rc_ialdj (j := (v2 + (1 : Int32)).toNatClampNeg) hx hb hK hW (rc_t_4_0 hT h0) (by decide) rfl hi_1 rfl dX3_remove_24 ?_
        have hi_2 := (rc_ix hm).1
        replace hm := (rc_ix hm).2
        refine rc_iastj (j := v2.toNatClampNeg) hx hb hK hW hS (rc_t_4_0 hT h0) (by decide) (fun _ => rfl) hi_2 rfl dX3_remove_25 (fun σ_3 H locs eσ hW hS => ?_)
        replace hm := rc_lt_at hm eσ
        clear eσ
        refine lv_aload_n hx hb dX3_remove_26 rfl (lv_at hl 0 rfl) ?_
        refine rg_4_1 hx hb hts hown hK hW h0 tw_1_64 dX3_remove_27 ?_
        refine lv_iload_n hx hb dX3_remove_30 rfl (lv_at hl 1 rfl) ?_
        refine lv_aload_n hx hb dX3_remove_31 rfl (lv_at hl 0 rfl) ?_
        refine rg_4_1 hx hb hts hown hK hW h0 tw_1_64 dX3_remove_32 ?_
        refine lv_iload_n hx hb dX3_remove_35 rfl (lv_at hl 1 rfl) ?_
        refine lv_iconst (v := 1) hx hb dX3_remove_36 (by decide) ?_
        refine lv_iadd hx hb dX3_remove_37 ?_
        have hi_4 := (rc_ix hm).1
        replace hm := (rc_ix hm).2
        refine rc_zaldj (j := (v2 + (1 : Int32)).toNatClampNeg) hx hb hK hW (rc_t_4_1 hT h0) (by decide) rfl hi_4 rfl dX3_remove_38 ?_
        have hi_5 := (rc_ix hm).1
        replace hm := (rc_ix hm).2
        refine rc_zastj (j := v2.toNatClampNeg) hx hb hK hW hS (rc_t_4_1 hT h0) (by decide) (fun _ => rfl) hi_5 rfl dX3_remove_39 (fun σ_6 H locs eσ hW hS => ?_)
        replace hm := rc_lt_at hm eσ
        clear eσ
        obtain ⟨v2_7, ev⟩ : ∃ y : Int32, y = (v2 + 1) := ⟨_, rfl⟩
        replace hm := rc_lt_at hm ev
        refine lv_iinc (v := v2_7) (lv' := [(2, .int v2_7), (0, .ref a0)]) hx hb dX3_remove_40 hl (k := 1) rfl (by rw [ev]; rfl) (by decide) rfl (fun ls hl => ?_)
        clear ev
        refine lv_goto (tgt := 2) hx hb dX3_remove_43 (by decide) ?_
        exact ih v2_7 σ_6 _ _ _ hm hW hS (lv_sub hl [1, 0] rfl)
  unfold f_X3_remove at hm
  refine lv_iload_n hx hb dX3_remove_0 rfl (lv_at hl 1 rfl) ?_
  refine lv_istore_n (lv' := [(2, .int u1), (0, .ref a0), (1, .int u1)]) hx hb dX3_remove_1 rfl hl (by decide) rfl (fun ls hl => ?_)
  refine lp_2 _ (fun v2_9 σ_10 H locs ls hm hW hS hl => ?_) rc_fu u1 σ _ _ _ hm hW hS (lv_sub hl [1, 0] rfl)
  refine lv_aload_n hx hb dX3_remove_46 rfl (lv_at hl 0 rfl) ?_
  refine lv_dup hx hb dX3_remove_47 rfl ?_
  refine rg_4_2 hx hb hts hown hK hW h0 tw_1_66 dX3_remove_48 ?_
  refine lv_iconst (v := 1) hx hb dX3_remove_51 (by decide) ?_
  refine lv_isub hx hb dX3_remove_52 ?_
  refine rp_4_2 hx hb hts hown hK hW hS h0 tw_1_66 dX3_remove_53 (fun σ_11 H locs eσ hW hS => ?_)
  replace hm := rc_lt_at hm eσ
  clear eσ
  exact rc_evret hx hb hr hlocks hW hS (Nat.le_of_ble_eq_true rfl) (Nat.le_of_ble_eq_true rfl) hm dX3_remove_56
set_option maxHeartbeats 4000000 in
set_option maxRecDepth 100000 in
theorem k_X3_mildPalate (l : Launch) {Y : rc_Y} {sh : Nat → Nat} {rf : rc_F} (hT : rc_T Y sh rf) (a0 : Nat) (u1 : Int32) (h0 : sh a0 = 4) (sz : Nat) (σ σ' : rc_S) (r : Int32) (hm : f_X3_mildPalate rf a0 u1 σ = some (r, σ')) : Met l yX3_mildPalate (Cond.code yX3_mildPalate cX3_mildPalate 2 (some .int) :: rc_big) ({ frames := 0, cells := 0, slots := 0, locals := 0 } : Room) (rc_P Y sh rf σ sz [.ref a0, .int u1]) (va_Qi (fun (r' : Int32) (_ : Unit) => r' = r) (fun _ t => rc_W Y sh rf σ' t.heap) (rc_A sh sz)) 0 0 (rc_A sh sz) := by
  refine Met.ofW (cc := cX3_mildPalate) (maxL := 2) (ret := (some .int)) (by decide +kernel) rfl ?_
  intro p e s m args below meth c s₁ B hml hv
  obtain ⟨rfl, hsz, hW, hK, hE⟩ := hv
  have hx := B.exec
  have hb := B.bytes
  have hr := B.returns
  have hts : ∀ w ∈ rc_big, w.before _ s = true := fun w h => atoms_spec (ws := Cond.code yX3_mildPalate cX3_mildPalate 2 (some .int) :: rc_big) B.pre w (List.mem_cons_of_mem _ h)
  have hown : s.vm.findClass RX3 = some m.cls := findClass_of_methodNamed B.named
  have hlocks := B.notSynchronized
  clear B
  subst hsz
  have hS : va_S (rc_A sh s.heap.size) s.heap s.heap [] := va_S.rf
  have hl := lv_entry ([.ref a0, .int u1]) (n := 2) (Nat.le_of_ble_eq_true rfl)
  rw [lg_entry_eq]
  generalize (lg_sl ([.ref a0, .int u1]) ++ List.replicate (2 - (lg_sl ([.ref a0, .int u1])).length) Slot.unset).toArray = ls at hl ⊢
  have hl : lv_has ls 2 [(0, .ref a0), (1, .int u1)] := hl
  unfold f_X3_mildPalate at hm
  refine lv_aload_n hx hb dX3_mildPalate_0 rfl (lv_at hl 0 rfl) ?_
  refine rg_4_0 hx hb hts hown hK hW h0 tw_1_62 dX3_mildPalate_1 ?_
  refine lv_iload_n hx hb dX3_mildPalate_4 rfl (lv_at hl 1 rfl) ?_
  have hi_1 := (rc_ix hm).1
  replace hm := (rc_ix hm).2
  refine rc_ialdj (j := u1.toNatClampNeg) hx hb hK hW (rc_t_4_0 hT h0) (by decide) rfl hi_1 rfl dX3_mildPalate_5 ?_
  refine lv_aload_n hx hb dX3_mildPalate_6 rfl (lv_at hl 0 rfl) ?_
  refine rg_4_1 hx hb hts hown hK hW h0 tw_1_64 dX3_mildPalate_7 ?_
  refine lv_iload_n hx hb dX3_mildPalate_10 rfl (lv_at hl 1 rfl) ?_
  have hi_2 := (rc_ix hm).1
  replace hm := (rc_ix hm).2
  refine rc_zaldj (j := u1.toNatClampNeg) hx hb hK hW (rc_t_4_1 hT h0) (by decide) rfl hi_2 rfl dX3_mildPalate_11 ?_
  refine lv_if_eq (tgt := 19) hx hb dX3_mildPalate_12 (by decide) (fun c_3 => ?_) (fun c_3 => ?_)
  · replace hm := rc_t hm c_3
    refine lv_iconst (v := 0) hx hb dX3_mildPalate_19 (by decide) ?_
    refine lv_iadd hx hb dX3_mildPalate_20 ?_
    exact rc_eiret hx hb hr hlocks hW hS (Nat.le_of_ble_eq_true rfl) (Nat.le_of_ble_eq_true rfl) hm dX3_mildPalate_21
  · replace hm := rc_f hm c_3
    refine lv_iconst (v := 2) hx hb dX3_mildPalate_15 (by decide) ?_
    refine lv_goto (tgt := 20) hx hb dX3_mildPalate_16 (by decide) ?_
    refine lv_iadd hx hb dX3_mildPalate_20 ?_
    exact rc_eiret hx hb hr hlocks hW hS (Nat.le_of_ble_eq_true rfl) (Nat.le_of_ble_eq_true rfl) hm dX3_mildPalate_21
set_option maxHeartbeats 4000000 in
set_option maxRecDepth 100000 in
theorem k_X3_doesPalateNotice (l : Launch) {Y : rc_Y} {sh : Nat → Nat} {rf : rc_F} (hT : rc_T Y sh rf) (u0 : Int32) (u1 : Int32) (sz : Nat) (σ σ' : rc_S) (r : Int32) (hm : f_X3_doesPalateNotice rf u0 u1 σ = some (r, σ')) : Met l yX3_doesPalateNotice (Cond.code yX3_doesPalateNotice cX3_doesPalateNotice 2 (some .boolean) :: rc_big) ({ frames := 0, cells := 0, slots := 0, locals := 0 } : Room) (rc_P Y sh rf σ sz [.int u0, .int u1]) (va_Qi (fun (r' : Int32) (_ : Unit) => r' = r) (fun _ t => rc_W Y sh rf σ' t.heap) (rc_A sh sz)) 0 0 (rc_A sh sz) := by
  refine Met.ofW (cc := cX3_doesPalateNotice) (maxL := 2) (ret := (some .boolean)) (by decide +kernel) rfl ?_
  intro p e s m args below meth c s₁ B hml hv
  obtain ⟨rfl, hsz, hW, hK, hE⟩ := hv
  have hx := B.exec
  have hb := B.bytes
  have hr := B.returns
  have hts : ∀ w ∈ rc_big, w.before _ s = true := fun w h => atoms_spec (ws := Cond.code yX3_doesPalateNotice cX3_doesPalateNotice 2 (some .boolean) :: rc_big) B.pre w (List.mem_cons_of_mem _ h)
  have hown : s.vm.findClass RX3 = some m.cls := findClass_of_methodNamed B.named
  have hlocks := B.notSynchronized
  clear B
  subst hsz
  have hS : va_S (rc_A sh s.heap.size) s.heap s.heap [] := va_S.rf
  have hl := lv_entry ([.int u0, .int u1]) (n := 2) (Nat.le_of_ble_eq_true rfl)
  rw [lg_entry_eq]
  generalize (lg_sl ([.int u0, .int u1]) ++ List.replicate (2 - (lg_sl ([.int u0, .int u1])).length) Slot.unset).toArray = ls at hl ⊢
  have hl : lv_has ls 2 [(0, .int u0), (1, .int u1)] := hl
  unfold f_X3_doesPalateNotice at hm
  refine lv_iload_n hx hb dX3_doesPalateNotice_0 rfl (lv_at hl 1 rfl) ?_
  refine lv_if_le (tgt := 18) hx hb dX3_doesPalateNotice_1 (by decide) (fun c_2 => ?_) (fun c_2 => ?_)
  · replace hm := rc_t hm c_2
    refine lv_iconst (v := 0) hx hb dX3_doesPalateNotice_18 (by decide) ?_
    exact rc_ezret hx hb hr hlocks hW hS (Nat.le_of_ble_eq_true rfl) (Nat.le_of_ble_eq_true rfl) rfl hm dX3_doesPalateNotice_19
  · replace hm := rc_f hm c_2
    refine lv_iload_n hx hb dX3_doesPalateNotice_4 rfl (lv_at hl 1 rfl) ?_
    refine lv_bipush (v := 50) hx hb dX3_doesPalateNotice_5 (by decide) ?_
    refine lv_iconst (v := 5) hx hb dX3_doesPalateNotice_7 (by decide) ?_
    refine lv_iload_n hx hb dX3_doesPalateNotice_8 rfl (lv_at hl 0 rfl) ?_
    refine lv_imul hx hb dX3_doesPalateNotice_9 ?_
    refine lv_isub hx hb dX3_doesPalateNotice_10 ?_
    refine lv_icmp_le (tgt := 18) hx hb dX3_doesPalateNotice_11 (by decide) (fun c_1 => ?_) (fun c_1 => ?_)
    · replace hm := rc_t hm c_1
      refine lv_iconst (v := 0) hx hb dX3_doesPalateNotice_18 (by decide) ?_
      exact rc_ezret hx hb hr hlocks hW hS (Nat.le_of_ble_eq_true rfl) (Nat.le_of_ble_eq_true rfl) rfl hm dX3_doesPalateNotice_19
    · replace hm := rc_f hm c_1
      refine lv_iconst (v := 1) hx hb dX3_doesPalateNotice_14 (by decide) ?_
      refine lv_goto (tgt := 19) hx hb dX3_doesPalateNotice_15 (by decide) ?_
      exact rc_ezret hx hb hr hlocks hW hS (Nat.le_of_ble_eq_true rfl) (Nat.le_of_ble_eq_true rfl) rfl hm dX3_doesPalateNotice_19
set_option maxHeartbeats 4000000 in
set_option maxRecDepth 100000 in
theorem k_X4_copy (l : Launch) {Y : rc_Y} {sh : Nat → Nat} {rf : rc_F} (hT : rc_T Y sh rf) (a0 : Nat) (q1 : Nat) (h0 : sh a0 = 5) (hq1 : sh q1 = 5) (sz : Nat) (σ σ' : rc_S) (r : Unit) (hm : f_X4_copy rf a0 q1 σ = some (r, σ')) : Met l yX4_copy (Cond.code yX4_copy cX4_copy 2 none :: rc_big) ({ frames := 0, cells := 0, slots := 0, locals := 0 } : Room) (rc_P Y sh rf σ sz [.ref a0, .ref q1]) (va_Qv (fun (_ : Unit) => True) (fun _ t => rc_W Y sh rf σ' t.heap) (rc_A sh sz)) 0 0 (rc_A sh sz) := by
  refine Met.ofW (cc := cX4_copy) (maxL := 2) (ret := none) (by decide +kernel) rfl ?_
  intro p e s m args below meth c s₁ B hml hv
  obtain ⟨rfl, hsz, hW, hK, hE⟩ := hv
  have hx := B.exec
  have hb := B.bytes
  have hr := B.returns
  have hts : ∀ w ∈ rc_big, w.before _ s = true := fun w h => atoms_spec (ws := Cond.code yX4_copy cX4_copy 2 none :: rc_big) B.pre w (List.mem_cons_of_mem _ h)
  have hown : s.vm.findClass RX4 = some m.cls := findClass_of_methodNamed B.named
  have hlocks := B.notSynchronized
  clear B
  subst hsz
  have hS : va_S (rc_A sh s.heap.size) s.heap s.heap [] := va_S.rf
  have hl := lv_entry ([.ref a0, .ref q1]) (n := 2) (Nat.le_of_ble_eq_true rfl)
  rw [lg_entry_eq]
  generalize (lg_sl ([.ref a0, .ref q1]) ++ List.replicate (2 - (lg_sl ([.ref a0, .ref q1])).length) Slot.unset).toArray = ls at hl ⊢
  have hl : lv_has ls 2 [(0, .ref a0), (1, .ref q1)] := hl
  unfold f_X4_copy at hm
  refine lv_aload_n hx hb dX4_copy_0 rfl (lv_at hl 0 rfl) ?_
  refine lv_aload_n hx hb dX4_copy_1 rfl (lv_at hl 1 rfl) ?_
  refine rg_5_0 hx hb hts hown hK hW hq1 tw_1_124 dX4_copy_2 ?_
  refine rp_5_0 hx hb hts hown hK hW hS h0 tw_1_124 dX4_copy_5 (fun σ_1 H locs eσ hW hS => ?_)
  replace hm := rc_lt_at hm eσ
  clear eσ
  refine lv_aload_n hx hb dX4_copy_8 rfl (lv_at hl 0 rfl) ?_
  refine lv_aload_n hx hb dX4_copy_9 rfl (lv_at hl 1 rfl) ?_
  refine rg_5_1 hx hb hts hown hK hW hq1 tw_1_127 dX4_copy_10 ?_
  refine rp_5_1 hx hb hts hown hK hW hS h0 tw_1_127 dX4_copy_13 (fun σ_2 H locs eσ hW hS => ?_)
  replace hm := rc_lt_at hm eσ
  clear eσ
  refine lv_aload_n hx hb dX4_copy_16 rfl (lv_at hl 0 rfl) ?_
  refine lv_aload_n hx hb dX4_copy_17 rfl (lv_at hl 1 rfl) ?_
  refine rg_5_2 hx hb hts hown hK hW hq1 tw_1_130 dX4_copy_18 ?_
  refine rp_5_2 hx hb hts hown hK hW hS h0 tw_1_130 dX4_copy_21 (fun σ_3 H locs eσ hW hS => ?_)
  replace hm := rc_lt_at hm eσ
  clear eσ
  exact rc_evret hx hb hr hlocks hW hS (Nat.le_of_ble_eq_true rfl) (Nat.le_of_ble_eq_true rfl) hm dX4_copy_24
set_option maxHeartbeats 4000000 in
set_option maxRecDepth 100000 in
theorem k_X5_because (l : Launch) {Y : rc_Y} {sh : Nat → Nat} {rf : rc_F} (hT : rc_T Y sh rf) (a0 : Nat) (u1 : Int32) (u2 : Int32) (h0 : sh a0 = 6) (sz : Nat) (σ σ' : rc_S) (r : Int32) (hm : f_X5_because rf a0 u1 u2 σ = some (r, σ')) : Met l yX5_because (Cond.code yX5_because cX5_because 3 (some .int) :: rc_big) ({ frames := 0, cells := 0, slots := 0, locals := 0 } : Room) (rc_P Y sh rf σ sz [.ref a0, .int u1, .int u2]) (va_Qi (fun (r' : Int32) (_ : Unit) => r' = r) (fun _ t => rc_W Y sh rf σ' t.heap) (rc_A sh sz)) 0 0 (rc_A sh sz) := by
  refine Met.ofW (cc := cX5_because) (maxL := 3) (ret := (some .int)) (by decide +kernel) rfl ?_
  intro p e s m args below meth c s₁ B hml hv
  obtain ⟨rfl, hsz, hW, hK, hE⟩ := hv
  have hx := B.exec
  have hb := B.bytes
  have hr := B.returns
  have hts : ∀ w ∈ rc_big, w.before _ s = true := fun w h => atoms_spec (ws := Cond.code yX5_because cX5_because 3 (some .int) :: rc_big) B.pre w (List.mem_cons_of_mem _ h)
  have hown : s.vm.findClass RX5 = some m.cls := findClass_of_methodNamed B.named
  have hlocks := B.notSynchronized
  clear B
  subst hsz
  have hS : va_S (rc_A sh s.heap.size) s.heap s.heap [] := va_S.rf
  have hl := lv_entry ([.ref a0, .int u1, .int u2]) (n := 3) (Nat.le_of_ble_eq_true rfl)
  rw [lg_entry_eq]
  generalize (lg_sl ([.ref a0, .int u1, .int u2]) ++ List.replicate (3 - (lg_sl ([.ref a0, .int u1, .int u2])).length) Slot.unset).toArray = ls at hl ⊢
  have hl : lv_has ls 3 [(0, .ref a0), (1, .int u1), (2, .int u2)] := hl
  unfold f_X5_because at hm
  refine lv_aload_n hx hb dX5_because_0 rfl (lv_at hl 0 rfl) ?_
  refine lv_iload_n hx hb dX5_because_1 rfl (lv_at hl 1 rfl) ?_
  refine rp_6_0 hx hb hts hown hK hW hS h0 tw_1_215 dX5_because_2 (fun σ_1 H locs eσ hW hS => ?_)
  replace hm := rc_lt_at hm eσ
  clear eσ
  refine lv_aload_n hx hb dX5_because_5 rfl (lv_at hl 0 rfl) ?_
  refine lv_iload_n hx hb dX5_because_6 rfl (lv_at hl 2 rfl) ?_
  refine rp_6_1 hx hb hts hown hK hW hS h0 tw_1_217 dX5_because_7 (fun σ_2 H locs eσ hW hS => ?_)
  replace hm := rc_lt_at hm eσ
  clear eσ
  refine lv_aload_n hx hb dX5_because_10 rfl (lv_at hl 0 rfl) ?_
  refine lv_iconst (v := 0) hx hb dX5_because_11 (by decide) ?_
  refine rp_6_2 hx hb hts hown hK hW hS h0 tw_1_219 dX5_because_12 (fun σ_3 H locs eσ hW hS => ?_)
  replace hm := rc_lt_at hm eσ
  clear eσ
  refine lv_iconst (v := (-1)) hx hb dX5_because_15 (by decide) ?_
  exact rc_eiret hx hb hr hlocks hW hS (Nat.le_of_ble_eq_true rfl) (Nat.le_of_ble_eq_true rfl) hm dX5_because_16
set_option maxHeartbeats 4000000 in
set_option maxRecDepth 100000 in
theorem k_X6_add (l : Launch) {Y : rc_Y} {sh : Nat → Nat} {rf : rc_F} (hT : rc_T Y sh rf) (a0 : Nat) (u1 : Int32) (h0 : sh a0 = 7) (sz : Nat) (σ σ' : rc_S) (r : Unit) (hm : f_X6_add rf a0 u1 σ = some (r, σ')) : Met l yX6_add (Cond.code yX6_add cX6_add 2 none :: rc_big) ({ frames := 0, cells := 0, slots := 0, locals := 0 } : Room) (rc_P Y sh rf σ sz [.ref a0, .int u1]) (va_Qv (fun (_ : Unit) => True) (fun _ t => rc_W Y sh rf σ' t.heap) (rc_A sh sz)) 0 0 (rc_A sh sz) := by
  refine Met.ofW (cc := cX6_add) (maxL := 2) (ret := none) (by decide +kernel) rfl ?_
  intro p e s m args below meth c s₁ B hml hv
  obtain ⟨rfl, hsz, hW, hK, hE⟩ := hv
  have hx := B.exec
  have hb := B.bytes
  have hr := B.returns
  have hts : ∀ w ∈ rc_big, w.before _ s = true := fun w h => atoms_spec (ws := Cond.code yX6_add cX6_add 2 none :: rc_big) B.pre w (List.mem_cons_of_mem _ h)
  have hown : s.vm.findClass RX6 = some m.cls := findClass_of_methodNamed B.named
  have hlocks := B.notSynchronized
  clear B
  subst hsz
  have hS : va_S (rc_A sh s.heap.size) s.heap s.heap [] := va_S.rf
  have hl := lv_entry ([.ref a0, .int u1]) (n := 2) (Nat.le_of_ble_eq_true rfl)
  rw [lg_entry_eq]
  generalize (lg_sl ([.ref a0, .int u1]) ++ List.replicate (2 - (lg_sl ([.ref a0, .int u1])).length) Slot.unset).toArray = ls at hl ⊢
  have hl : lv_has ls 2 [(0, .ref a0), (1, .int u1)] := hl
  unfold f_X6_add at hm
  refine lv_aload_n hx hb dX6_add_0 rfl (lv_at hl 0 rfl) ?_
  refine rg_7_0 hx hb hts hown hK hW h0 tw_2_25 dX6_add_1 ?_
  refine lv_aload_n hx hb dX6_add_4 rfl (lv_at hl 0 rfl) ?_
  refine rg_7_1 hx hb hts hown hK hW h0 tw_2_26 dX6_add_5 ?_
  refine lv_iload_n hx hb dX6_add_8 rfl (lv_at hl 1 rfl) ?_
  have hi_1 := (rc_ix hm).1
  replace hm := (rc_ix hm).2
  refine rc_castj (j := (σ a0 1).toNatClampNeg) hx hb hK hW hS (rc_t_7_0 hT h0) (by decide) (fun _ => rfl) hi_1 rfl dX6_add_9 (fun σ_2 H locs eσ hW hS => ?_)
  replace hm := rc_lt_at hm eσ
  clear eσ
  refine lv_aload_n hx hb dX6_add_10 rfl (lv_at hl 0 rfl) ?_
  refine lv_dup hx hb dX6_add_11 rfl ?_
  refine rg_7_1 hx hb hts hown hK hW h0 tw_2_26 dX6_add_12 ?_
  refine lv_iconst (v := 1) hx hb dX6_add_15 (by decide) ?_
  refine lv_iadd hx hb dX6_add_16 ?_
  refine rp_7_1 hx hb hts hown hK hW hS h0 tw_2_26 dX6_add_17 (fun σ_3 H locs eσ hW hS => ?_)
  replace hm := rc_lt_at hm eσ
  clear eσ
  exact rc_evret hx hb hr hlocks hW hS (Nat.le_of_ble_eq_true rfl) (Nat.le_of_ble_eq_true rfl) hm dX6_add_20
set_option maxHeartbeats 4000000 in
set_option maxRecDepth 100000 in
theorem k_X6_makeEmpty (l : Launch) {Y : rc_Y} {sh : Nat → Nat} {rf : rc_F} (hT : rc_T Y sh rf) (a0 : Nat) (h0 : sh a0 = 7) (sz : Nat) (σ σ' : rc_S) (r : Unit) (hm : f_X6_makeEmpty rf a0 σ = some (r, σ')) : Met l yX6_makeEmpty (Cond.code yX6_makeEmpty cX6_makeEmpty 1 none :: rc_big) ({ frames := 0, cells := 0, slots := 0, locals := 0 } : Room) (rc_P Y sh rf σ sz [.ref a0]) (va_Qv (fun (_ : Unit) => True) (fun _ t => rc_W Y sh rf σ' t.heap) (rc_A sh sz)) 0 0 (rc_A sh sz) := by
  refine Met.ofW (cc := cX6_makeEmpty) (maxL := 1) (ret := none) (by decide +kernel) rfl ?_
  intro p e s m args below meth c s₁ B hml hv
  obtain ⟨rfl, hsz, hW, hK, hE⟩ := hv
  have hx := B.exec
  have hb := B.bytes
  have hr := B.returns
  have hts : ∀ w ∈ rc_big, w.before _ s = true := fun w h => atoms_spec (ws := Cond.code yX6_makeEmpty cX6_makeEmpty 1 none :: rc_big) B.pre w (List.mem_cons_of_mem _ h)
  have hown : s.vm.findClass RX6 = some m.cls := findClass_of_methodNamed B.named
  have hlocks := B.notSynchronized
  clear B
  subst hsz
  have hS : va_S (rc_A sh s.heap.size) s.heap s.heap [] := va_S.rf
  have hl := lv_entry ([.ref a0]) (n := 1) (Nat.le_of_ble_eq_true rfl)
  rw [lg_entry_eq]
  generalize (lg_sl ([.ref a0]) ++ List.replicate (1 - (lg_sl ([.ref a0])).length) Slot.unset).toArray = ls at hl ⊢
  have hl : lv_has ls 1 [(0, .ref a0)] := hl
  unfold f_X6_makeEmpty at hm
  refine lv_aload_n hx hb dX6_makeEmpty_0 rfl (lv_at hl 0 rfl) ?_
  refine lv_iconst (v := 0) hx hb dX6_makeEmpty_1 (by decide) ?_
  refine rp_7_1 hx hb hts hown hK hW hS h0 tw_2_26 dX6_makeEmpty_2 (fun σ_1 H locs eσ hW hS => ?_)
  replace hm := rc_lt_at hm eσ
  clear eσ
  exact rc_evret hx hb hr hlocks hW hS (Nat.le_of_ble_eq_true rfl) (Nat.le_of_ble_eq_true rfl) hm dX6_makeEmpty_5
set_option maxHeartbeats 4000000 in
set_option maxRecDepth 100000 in
theorem k_X6_numberOf (l : Launch) {Y : rc_Y} {sh : Nat → Nat} {rf : rc_F} (hT : rc_T Y sh rf) (a0 : Nat) (u1 : Int32) (u2 : Int32) (h0 : sh a0 = 7) (sz : Nat) (σ σ' : rc_S) (r : Int32) (hm : f_X6_numberOf rf a0 u1 u2 σ = some (r, σ')) : Met l yX6_numberOf (Cond.code yX6_numberOf cX6_numberOf 3 (some .int) :: rc_big) ({ frames := 0, cells := 0, slots := 0, locals := 0 } : Room) (rc_P Y sh rf σ sz [.ref a0, .int u1, .int u2]) (va_Qi (fun (r' : Int32) (_ : Unit) => r' = r) (fun _ t => rc_W Y sh rf σ' t.heap) (rc_A sh sz)) 0 0 (rc_A sh sz) := by
  refine Met.ofW (cc := cX6_numberOf) (maxL := 3) (ret := (some .int)) (by decide +kernel) rfl ?_
  intro p e s m args below meth c s₁ B hml hv
  obtain ⟨rfl, hsz, hW, hK, hE⟩ := hv
  have hx := B.exec
  have hb := B.bytes
  have hr := B.returns
  have hts : ∀ w ∈ rc_big, w.before _ s = true := fun w h => atoms_spec (ws := Cond.code yX6_numberOf cX6_numberOf 3 (some .int) :: rc_big) B.pre w (List.mem_cons_of_mem _ h)
  have hown : s.vm.findClass RX6 = some m.cls := findClass_of_methodNamed B.named
  have hlocks := B.notSynchronized
  clear B
  subst hsz
  have hS : va_S (rc_A sh s.heap.size) s.heap s.heap [] := va_S.rf
  have hl := lv_entry ([.ref a0, .int u1, .int u2]) (n := 3) (Nat.le_of_ble_eq_true rfl)
  rw [lg_entry_eq]
  generalize (lg_sl ([.ref a0, .int u1, .int u2]) ++ List.replicate (3 - (lg_sl ([.ref a0, .int u1, .int u2])).length) Slot.unset).toArray = ls at hl ⊢
  have hl : lv_has ls 3 [(0, .ref a0), (1, .int u1), (2, .int u2)] := hl
  unfold f_X6_numberOf at hm
  refine lv_aload_n hx hb dX6_numberOf_0 rfl (lv_at hl 0 rfl) ?_
  refine rg_7_3 hx hb hts hown hK hW h0 tw_2_30 dX6_numberOf_1 ?_
  refine lv_iload_n hx hb dX6_numberOf_4 rfl (lv_at hl 1 rfl) ?_
  refine lv_iconst (v := 3) hx hb dX6_numberOf_5 (by decide) ?_
  refine lv_imul hx hb dX6_numberOf_6 ?_
  refine lv_iload_n hx hb dX6_numberOf_7 rfl (lv_at hl 2 rfl) ?_
  refine lv_iadd hx hb dX6_numberOf_8 ?_
  have hi_1 := (rc_ix hm).1
  replace hm := (rc_ix hm).2
  refine rc_ialdj (j := ((u1 * (3 : Int32)) + u2).toNatClampNeg) hx hb hK hW (rc_t_7_3 hT h0) (by decide) rfl hi_1 rfl dX6_numberOf_9 ?_
  exact rc_eiret hx hb hr hlocks hW hS (Nat.le_of_ble_eq_true rfl) (Nat.le_of_ble_eq_true rfl) hm dX6_numberOf_10
set_option maxHeartbeats 4000000 in
set_option maxRecDepth 100000 in
theorem k_X6_formOf (l : Launch) {Y : rc_Y} {sh : Nat → Nat} {rf : rc_F} (hT : rc_T Y sh rf) (u0 : Int32) (sz : Nat) (σ σ' : rc_S) (r : Nat) (hm : f_X6_formOf rf u0 σ = some (r, σ')) : Met l yX6_formOf (Cond.code yX6_formOf cX6_formOf 1 (some (.object "java/lang/String")) :: rc_big) ({ frames := 0, cells := 0, slots := 0, locals := 0 } : Room) (rc_P Y sh rf σ sz [.int u0]) (va_Qq (fun (q : Option Nat) (_ : Unit) => q = rc_sv Y r) (fun _ t => rc_W Y sh rf σ' t.heap) (rc_A sh sz)) 0 0 (rc_A sh sz) := by
  refine Met.ofW (cc := cX6_formOf) (maxL := 1) (ret := (some (.object "java/lang/String"))) (by decide +kernel) rfl ?_
  intro p e s m args below meth c s₁ B hml hv
  obtain ⟨rfl, hsz, hW, hK, hE⟩ := hv
  have hx := B.exec
  have hb := B.bytes
  have hr := B.returns
  have hts : ∀ w ∈ rc_big, w.before _ s = true := fun w h => atoms_spec (ws := Cond.code yX6_formOf cX6_formOf 1 (some (.object "java/lang/String")) :: rc_big) B.pre w (List.mem_cons_of_mem _ h)
  have hown : s.vm.findClass RX6 = some m.cls := findClass_of_methodNamed B.named
  have hlocks := B.notSynchronized
  clear B
  subst hsz
  have hS : va_S (rc_A sh s.heap.size) s.heap s.heap [] := va_S.rf
  have hl := lv_entry ([.int u0]) (n := 1) (Nat.le_of_ble_eq_true rfl)
  rw [lg_entry_eq]
  generalize (lg_sl ([.int u0]) ++ List.replicate (1 - (lg_sl ([.int u0])).length) Slot.unset).toArray = ls at hl ⊢
  have hl : lv_has ls 1 [(0, .int u0)] := hl
  unfold f_X6_formOf at hm
  refine lv_iload_n hx hb dX6_formOf_0 rfl (lv_at hl 0 rfl) ?_
  by_cases c_1 : u0 = (98 : Int32)
  · replace hm := rc_t hm c_1
    refine lv_tableIn (off := 123) (tgt := 124) hx hb dX6_formOf_1 (by rw [c_1]; decide) (by rw [c_1]; decide) (by rw [c_1]; decide) (by decide) ?_
    refine va_ldcS hx hb hown (rc_E_R hE 4 (by decide)) dX6_formOf_124 ?_
    exact rc_esret (j := 4) hx hb hr hlocks hW hS (Nat.le_of_ble_eq_true rfl) (Nat.le_of_ble_eq_true rfl) rfl hm dX6_formOf_126
  · replace hm := rc_f hm c_1
    by_cases c_2 : u0 = (99 : Int32)
    · replace hm := rc_t hm c_2
      refine lv_tableIn (off := 123) (tgt := 124) hx hb dX6_formOf_1 (by rw [c_2]; decide) (by rw [c_2]; decide) (by rw [c_2]; decide) (by decide) ?_
      refine va_ldcS hx hb hown (rc_E_R hE 4 (by decide)) dX6_formOf_124 ?_
      exact rc_esret (j := 4) hx hb hr hlocks hW hS (Nat.le_of_ble_eq_true rfl) (Nat.le_of_ble_eq_true rfl) rfl hm dX6_formOf_126
    · replace hm := rc_f hm c_2
      by_cases c_3 : u0 = (103 : Int32)
      · replace hm := rc_t hm c_3
        refine lv_tableIn (off := 123) (tgt := 124) hx hb dX6_formOf_1 (by rw [c_3]; decide) (by rw [c_3]; decide) (by rw [c_3]; decide) (by decide) ?_
        refine va_ldcS hx hb hown (rc_E_R hE 4 (by decide)) dX6_formOf_124 ?_
        exact rc_esret (j := 4) hx hb hr hlocks hW hS (Nat.le_of_ble_eq_true rfl) (Nat.le_of_ble_eq_true rfl) rfl hm dX6_formOf_126
      · replace hm := rc_f hm c_3
        by_cases c_4 : u0 = (104 : Int32)
        · replace hm := rc_t hm c_4
          refine lv_tableIn (off := 117) (tgt := 118) hx hb dX6_formOf_1 (by rw [c_4]; decide) (by rw [c_4]; decide) (by rw [c_4]; decide) (by decide) ?_
          refine va_ldcS hx hb hown (rc_E_R hE 2 (by decide)) dX6_formOf_118 ?_
          exact rc_esret (j := 2) hx hb hr hlocks hW hS (Nat.le_of_ble_eq_true rfl) (Nat.le_of_ble_eq_true rfl) rfl hm dX6_formOf_120
        · replace hm := rc_f hm c_4
          by_cases c_5 : u0 = (108 : Int32)
          · replace hm := rc_t hm c_5
            refine lv_tableIn (off := 123) (tgt := 124) hx hb dX6_formOf_1 (by rw [c_5]; decide) (by rw [c_5]; decide) (by rw [c_5]; decide) (by decide) ?_
            refine va_ldcS hx hb hown (rc_E_R hE 4 (by decide)) dX6_formOf_124 ?_
            exact rc_esret (j := 4) hx hb hr hlocks hW hS (Nat.le_of_ble_eq_true rfl) (Nat.le_of_ble_eq_true rfl) rfl hm dX6_formOf_126
          · replace hm := rc_f hm c_5
            by_cases c_6 : u0 = (109 : Int32)
            · replace hm := rc_t hm c_6
              refine lv_tableIn (off := 123) (tgt := 124) hx hb dX6_formOf_1 (by rw [c_6]; decide) (by rw [c_6]; decide) (by rw [c_6]; decide) (by decide) ?_
              refine va_ldcS hx hb hown (rc_E_R hE 4 (by decide)) dX6_formOf_124 ?_
              exact rc_esret (j := 4) hx hb hr hlocks hW hS (Nat.le_of_ble_eq_true rfl) (Nat.le_of_ble_eq_true rfl) rfl hm dX6_formOf_126
            · replace hm := rc_f hm c_6
              by_cases c_7 : u0 = (112 : Int32)
              · replace hm := rc_t hm c_7
                refine lv_tableIn (off := 114) (tgt := 115) hx hb dX6_formOf_1 (by rw [c_7]; decide) (by rw [c_7]; decide) (by rw [c_7]; decide) (by decide) ?_
                refine va_ldcS hx hb hown (rc_E_R hE 1 (by decide)) dX6_formOf_115 ?_
                exact rc_esret (j := 1) hx hb hr hlocks hW hS (Nat.le_of_ble_eq_true rfl) (Nat.le_of_ble_eq_true rfl) rfl hm dX6_formOf_117
              · replace hm := rc_f hm c_7
                by_cases c_8 : u0 = (115 : Int32)
                · replace hm := rc_t hm c_8
                  refine lv_tableIn (off := 111) (tgt := 112) hx hb dX6_formOf_1 (by rw [c_8]; decide) (by rw [c_8]; decide) (by rw [c_8]; decide) (by decide) ?_
                  refine va_ldcS hx hb hown (rc_E_R hE 0 (by decide)) dX6_formOf_112 ?_
                  exact rc_esret (j := 0) hx hb hr hlocks hW hS (Nat.le_of_ble_eq_true rfl) (Nat.le_of_ble_eq_true rfl) rfl hm dX6_formOf_114
                · replace hm := rc_f hm c_8
                  by_cases c_9 : u0 = (116 : Int32)
                  · replace hm := rc_t hm c_9
                    refine lv_tableIn (off := 123) (tgt := 124) hx hb dX6_formOf_1 (by rw [c_9]; decide) (by rw [c_9]; decide) (by rw [c_9]; decide) (by decide) ?_
                    refine va_ldcS hx hb hown (rc_E_R hE 4 (by decide)) dX6_formOf_124 ?_
                    exact rc_esret (j := 4) hx hb hr hlocks hW hS (Nat.le_of_ble_eq_true rfl) (Nat.le_of_ble_eq_true rfl) rfl hm dX6_formOf_126
                  · replace hm := rc_f hm c_9
                    by_cases c_10 : u0 = (120 : Int32)
                    · replace hm := rc_t hm c_10
                      refine lv_tableIn (off := 123) (tgt := 124) hx hb dX6_formOf_1 (by rw [c_10]; decide) (by rw [c_10]; decide) (by rw [c_10]; decide) (by decide) ?_
                      refine va_ldcS hx hb hown (rc_E_R hE 4 (by decide)) dX6_formOf_124 ?_
                      exact rc_esret (j := 4) hx hb hr hlocks hW hS (Nat.le_of_ble_eq_true rfl) (Nat.le_of_ble_eq_true rfl) rfl hm dX6_formOf_126
                    · replace hm := rc_f hm c_10
                      by_cases c_11 : u0 = (121 : Int32)
                      · replace hm := rc_t hm c_11
                        refine lv_tableIn (off := 120) (tgt := 121) hx hb dX6_formOf_1 (by rw [c_11]; decide) (by rw [c_11]; decide) (by rw [c_11]; decide) (by decide) ?_
                        refine va_ldcS hx hb hown (rc_E_R hE 3 (by decide)) dX6_formOf_121 ?_
                        exact rc_esret (j := 3) hx hb hr hlocks hW hS (Nat.le_of_ble_eq_true rfl) (Nat.le_of_ble_eq_true rfl) rfl hm dX6_formOf_123
                      · replace hm := rc_f hm c_11
                        refine rc_tblD (tgt := 127) hx hb dX6_formOf_1 [98, 99, 103, 104, 108, 109, 112, 115, 116, 120, 121] (by decide +kernel) (by decide +kernel) (rc_nk c_1 (by decide) (rc_nk c_2 (by decide) (rc_nk c_3 (by decide) (rc_nk c_4 (by decide) (rc_nk c_5 (by decide) (rc_nk c_6 (by decide) (rc_nk c_7 (by decide) (rc_nk c_8 (by decide) (rc_nk c_9 (by decide) (rc_nk c_10 (by decide) (rc_nk c_11 (by decide) rc_nk0))))))))))) (by decide) ?_
                        refine lv_null hx hb dX6_formOf_127 ?_
                        exact rc_esret (j := 5) hx hb hr hlocks hW hS (Nat.le_of_ble_eq_true rfl) (Nat.le_of_ble_eq_true rfl) rfl hm dX6_formOf_128
set_option maxHeartbeats 4000000 in
set_option maxRecDepth 100000 in
theorem k_X6_readSign (l : Launch) {Y : rc_Y} {sh : Nat → Nat} {rf : rc_F} (hT : rc_T Y sh rf) (a0 : Nat) (u1 : Int32) (h0 : sh a0 = 7) (sz : Nat) (σ σ' : rc_S) (r : Int32) (hm : f_X6_readSign rf a0 u1 σ = some (r, σ')) : Met l yX6_readSign (Cond.code yX6_readSign cX6_readSign 2 (some .boolean) :: rc_big) ({ frames := 0, cells := 0, slots := 0, locals := 0 } : Room) (rc_P Y sh rf σ sz [.ref a0, .int u1]) (va_Qi (fun (r' : Int32) (_ : Unit) => r' = r) (fun _ t => rc_W Y sh rf σ' t.heap) (rc_A sh sz)) 0 0 (rc_A sh sz) := by
  refine Met.ofW (cc := cX6_readSign) (maxL := 2) (ret := (some .boolean)) (by decide +kernel) rfl ?_
  intro p e s m args below meth c s₁ B hml hv
  obtain ⟨rfl, hsz, hW, hK, hE⟩ := hv
  have hx := B.exec
  have hb := B.bytes
  have hr := B.returns
  have hts : ∀ w ∈ rc_big, w.before _ s = true := fun w h => atoms_spec (ws := Cond.code yX6_readSign cX6_readSign 2 (some .boolean) :: rc_big) B.pre w (List.mem_cons_of_mem _ h)
  have hown : s.vm.findClass RX6 = some m.cls := findClass_of_methodNamed B.named
  have hlocks := B.notSynchronized
  clear B
  subst hsz
  have hS : va_S (rc_A sh s.heap.size) s.heap s.heap [] := va_S.rf
  have hl := lv_entry ([.ref a0, .int u1]) (n := 2) (Nat.le_of_ble_eq_true rfl)
  rw [lg_entry_eq]
  generalize (lg_sl ([.ref a0, .int u1]) ++ List.replicate (2 - (lg_sl ([.ref a0, .int u1])).length) Slot.unset).toArray = ls at hl ⊢
  have hl : lv_has ls 2 [(0, .ref a0), (1, .int u1)] := hl
  unfold f_X6_readSign at hm
  refine lv_aload_n hx hb dX6_readSign_0 rfl (lv_at hl 0 rfl) ?_
  refine rg_7_5 hx hb hts hown hK hW h0 tw_2_33 dX6_readSign_1 ?_
  refine lv_aload_n hx hb dX6_readSign_4 rfl (lv_at hl 0 rfl) ?_
  refine rg_7_1 hx hb hts hown hK hW h0 tw_2_26 dX6_readSign_5 ?_
  refine lv_icmp_ge (tgt := 24) hx hb dX6_readSign_8 (by decide) (fun c_4 => ?_) (fun c_4 => ?_)
  · replace hm := rc_t hm c_4
    refine lv_iconst (v := 0) hx hb dX6_readSign_24 (by decide) ?_
    exact rc_ezret hx hb hr hlocks hW hS (Nat.le_of_ble_eq_true rfl) (Nat.le_of_ble_eq_true rfl) rfl hm dX6_readSign_25
  · replace hm := rc_f hm c_4
    refine lv_aload_n hx hb dX6_readSign_11 rfl (lv_at hl 0 rfl) ?_
    refine rg_7_0 hx hb hts hown hK hW h0 tw_2_25 dX6_readSign_12 ?_
    refine lv_aload_n hx hb dX6_readSign_15 rfl (lv_at hl 0 rfl) ?_
    refine rg_7_5 hx hb hts hown hK hW h0 tw_2_33 dX6_readSign_16 ?_
    have hi_1 := (rc_ix hm).1
    replace hm := (rc_ix hm).2
    refine rc_caldj (j := (σ a0 5).toNatClampNeg) hx hb hK hW (rc_t_7_0 hT h0) (by decide) rfl hi_1 rfl dX6_readSign_19 ?_
    refine lv_iload_n hx hb dX6_readSign_20 rfl (lv_at hl 1 rfl) ?_
    refine lv_icmp_eq (tgt := 26) hx hb dX6_readSign_21 (by decide) (fun c_3 => ?_) (fun c_3 => ?_)
    · replace hm := rc_t hm c_3
      refine lv_aload_n hx hb dX6_readSign_26 rfl (lv_at hl 0 rfl) ?_
      refine lv_dup hx hb dX6_readSign_27 rfl ?_
      refine rg_7_5 hx hb hts hown hK hW h0 tw_2_33 dX6_readSign_28 ?_
      refine lv_iconst (v := 1) hx hb dX6_readSign_31 (by decide) ?_
      refine lv_iadd hx hb dX6_readSign_32 ?_
      refine rp_7_5 hx hb hts hown hK hW hS h0 tw_2_33 dX6_readSign_33 (fun σ_2 H locs eσ hW hS => ?_)
      replace hm := rc_lt_at hm eσ
      clear eσ
      refine lv_iconst (v := 1) hx hb dX6_readSign_36 (by decide) ?_
      exact rc_ezret hx hb hr hlocks hW hS (Nat.le_of_ble_eq_true rfl) (Nat.le_of_ble_eq_true rfl) rfl hm dX6_readSign_37
    · replace hm := rc_f hm c_3
      refine lv_iconst (v := 0) hx hb dX6_readSign_24 (by decide) ?_
      exact rc_ezret hx hb hr hlocks hW hS (Nat.le_of_ble_eq_true rfl) (Nat.le_of_ble_eq_true rfl) rfl hm dX6_readSign_25
set_option maxHeartbeats 4000000 in
set_option maxRecDepth 100000 in
theorem k_X6_readNumber (l : Launch) {Y : rc_Y} {sh : Nat → Nat} {rf : rc_F} (hT : rc_T Y sh rf) (a0 : Nat) (u1 : Int32) (h0 : sh a0 = 7) (sz : Nat) (σ σ' : rc_S) (r : Int32) (hm : f_X6_readNumber rf a0 u1 σ = some (r, σ')) : Met l yX6_readNumber (Cond.code yX6_readNumber cX6_readNumber 4 (some .boolean) :: rc_big) ({ frames := 0, cells := 0, slots := 0, locals := 0 } : Room) (rc_P Y sh rf σ sz [.ref a0, .int u1]) (va_Qi (fun (r' : Int32) (_ : Unit) => r' = r) (fun _ t => rc_W Y sh rf σ' t.heap) (rc_A sh sz)) 0 0 (rc_A sh sz) := by
  refine Met.ofW (cc := cX6_readNumber) (maxL := 4) (ret := (some .boolean)) (by decide +kernel) rfl ?_
  intro p e s m args below meth c s₁ B hml hv
  obtain ⟨rfl, hsz, hW, hK, hE⟩ := hv
  have hx := B.exec
  have hb := B.bytes
  have hr := B.returns
  have hts : ∀ w ∈ rc_big, w.before _ s = true := fun w h => atoms_spec (ws := Cond.code yX6_readNumber cX6_readNumber 4 (some .boolean) :: rc_big) B.pre w (List.mem_cons_of_mem _ h)
  have hown : s.vm.findClass RX6 = some m.cls := findClass_of_methodNamed B.named
  have hlocks := B.notSynchronized
  clear B
  subst hsz
  have hS : va_S (rc_A sh s.heap.size) s.heap s.heap [] := va_S.rf
  have hl := lv_entry ([.ref a0, .int u1]) (n := 4) (Nat.le_of_ble_eq_true rfl)
  rw [lg_entry_eq]
  generalize (lg_sl ([.ref a0, .int u1]) ++ List.replicate (4 - (lg_sl ([.ref a0, .int u1])).length) Slot.unset).toArray = ls at hl ⊢
  have hl : lv_has ls 4 [(0, .ref a0), (1, .int u1)] := hl
  have lp_4 : ∀ (v1 : Int32) (K : Int32 → Int32 → rc_S → Option (Int32 × rc_S)) (hKK : ∀ (v2 v3 : Int32) (σ : rc_S) (H : Heap) (locs : List Loc) (ls : Array Slot), K v2 v3 σ = some (r, σ') → rc_W Y sh rf σ H → va_S (rc_A sh s.heap.size) s.heap H locs → lv_has ls 4 [(0, .ref a0), (2, .int v2), (3, .int v3)] → W p l e (headSpec (Cond.code yX6_readNumber cX6_readNumber 4 (some .boolean) :: rc_big) ({ frames := 0, cells := 0, slots := 0, locals := 0 } : Room)).room s m (([.ref a0, .int u1] : List Value).toArray) below meth c H locs 0 0 (MQ below (va_Qi (fun (r' : Int32) (_ : Unit) => r' = r) (fun _ t => rc_W Y sh rf σ' t.heap) (rc_A sh s.heap.size)) ([.ref a0, .int u1] : List Value).toArray s 0 0 (rc_A sh s.heap.size)) (F0 m 82 ls [])) (n : Nat) (v2 v3 : Int32) (σ : rc_S) (H : Heap) (locs : List Loc) (ls : Array Slot), f_X6_readNumber_4 rf a0 v1 K n v2 v3 σ = some (r, σ') → rc_W Y sh rf σ H → va_S (rc_A sh s.heap.size) s.heap H locs → lv_has ls 4 [(0, .ref a0), (1, .int v1), (2, .int v2), (3, .int v3)] → W p l e (headSpec (Cond.code yX6_readNumber cX6_readNumber 4 (some .boolean) :: rc_big) ({ frames := 0, cells := 0, slots := 0, locals := 0 } : Room)).room s m (([.ref a0, .int u1] : List Value).toArray) below meth c H locs 0 0 (MQ below (va_Qi (fun (r' : Int32) (_ : Unit) => r' = r) (fun _ t => rc_W Y sh rf σ' t.heap) (rc_A sh s.heap.size)) ([.ref a0, .int u1] : List Value).toArray s 0 0 (rc_A sh s.heap.size)) (F0 m 4 ls []) := by
    intro v1 K hKK n
    induction n with
    | zero =>
      intro v2 v3 σ H locs ls hm
      rw [f_X6_readNumber_4] at hm
      cases hm
    | succ n ih =>
      intro v2 v3 σ H locs ls hm hW hS hl
      rw [f_X6_readNumber_4] at hm
      refine lv_iload_n hx hb dX6_readNumber_4 rfl (lv_at hl 3 rfl) ?_
      refine lv_iload_n hx hb dX6_readNumber_5 rfl (lv_at hl 1 rfl) ?_
      refine lv_icmp_ge (tgt := 82) hx hb dX6_readNumber_6 (by decide) (fun c_10 => ?_) (fun c_10 => ?_)
      · replace hm := rc_t hm c_10
        exact hKK v2 v3 σ _ _ _ hm hW hS (lv_sub hl [0, 2, 3] rfl)
      · replace hm := rc_f hm c_10
        refine lv_aload_n hx hb dX6_readNumber_9 rfl (lv_at hl 0 rfl) ?_
        refine rg_7_5 hx hb hts hown hK hW h0 tw_2_33 dX6_readNumber_10 ?_
        refine lv_aload_n hx hb dX6_readNumber_13 rfl (lv_at hl 0 rfl) ?_
        refine rg_7_1 hx hb hts hown hK hW h0 tw_2_26 dX6_readNumber_14 ?_
        refine lv_icmp_ge (tgt := 82) hx hb dX6_readNumber_17 (by decide) (fun c_9 => ?_) (fun c_9 => ?_)
        · replace hm := rc_t hm c_9
          exact hKK v2 v3 σ _ _ _ hm hW hS (lv_sub hl [0, 2, 3] rfl)
        · replace hm := rc_f hm c_9
          refine lv_aload_n hx hb dX6_readNumber_20 rfl (lv_at hl 0 rfl) ?_
          refine rg_7_0 hx hb hts hown hK hW h0 tw_2_25 dX6_readNumber_21 ?_
          refine lv_aload_n hx hb dX6_readNumber_24 rfl (lv_at hl 0 rfl) ?_
          refine rg_7_5 hx hb hts hown hK hW h0 tw_2_33 dX6_readNumber_25 ?_
          have hi_1 := (rc_ix hm).1
          replace hm := (rc_ix hm).2
          refine rc_caldj (j := (σ a0 5).toNatClampNeg) hx hb hK hW (rc_t_7_0 hT h0) (by decide) rfl hi_1 rfl dX6_readNumber_28 ?_
          refine lv_bipush (v := 48) hx hb dX6_readNumber_29 (by decide) ?_
          refine lv_icmp_lt (tgt := 82) hx hb dX6_readNumber_31 (by decide) (fun c_8 => ?_) (fun c_8 => ?_)
          · replace hm := rc_t hm c_8
            exact hKK v2 v3 σ _ _ _ hm hW hS (lv_sub hl [0, 2, 3] rfl)
          · replace hm := rc_f hm c_8
            refine lv_aload_n hx hb dX6_readNumber_34 rfl (lv_at hl 0 rfl) ?_
            refine rg_7_0 hx hb hts hown hK hW h0 tw_2_25 dX6_readNumber_35 ?_
            refine lv_aload_n hx hb dX6_readNumber_38 rfl (lv_at hl 0 rfl) ?_
            refine rg_7_5 hx hb hts hown hK hW h0 tw_2_33 dX6_readNumber_39 ?_
            have hi_2 := (rc_ix hm).1
            replace hm := (rc_ix hm).2
            refine rc_caldj (j := (σ a0 5).toNatClampNeg) hx hb hK hW (rc_t_7_0 hT h0) (by decide) rfl hi_2 rfl dX6_readNumber_42 ?_
            refine lv_bipush (v := 57) hx hb dX6_readNumber_43 (by decide) ?_
            refine lv_icmp_gt (tgt := 82) hx hb dX6_readNumber_45 (by decide) (fun c_7 => ?_) (fun c_7 => ?_)
            · replace hm := rc_t hm c_7
              exact hKK v2 v3 σ _ _ _ hm hW hS (lv_sub hl [0, 2, 3] rfl)
            · replace hm := rc_f hm c_7
              refine lv_bipush (v := 10) hx hb dX6_readNumber_48 (by decide) ?_
              refine lv_iload_n hx hb dX6_readNumber_50 rfl (lv_at hl 2 rfl) ?_
              refine lv_imul hx hb dX6_readNumber_51 ?_
              refine lv_aload_n hx hb dX6_readNumber_52 rfl (lv_at hl 0 rfl) ?_
              refine rg_7_0 hx hb hts hown hK hW h0 tw_2_25 dX6_readNumber_53 ?_
              refine lv_aload_n hx hb dX6_readNumber_56 rfl (lv_at hl 0 rfl) ?_
              refine rg_7_5 hx hb hts hown hK hW h0 tw_2_33 dX6_readNumber_57 ?_
              have hi_3 := (rc_ix hm).1
              replace hm := (rc_ix hm).2
              refine rc_caldj (j := (σ a0 5).toNatClampNeg) hx hb hK hW (rc_t_7_0 hT h0) (by decide) rfl hi_3 rfl dX6_readNumber_60 ?_
              refine lv_bipush (v := 48) hx hb dX6_readNumber_61 (by decide) ?_
              refine lv_isub hx hb dX6_readNumber_63 ?_
              refine lv_iadd hx hb dX6_readNumber_64 ?_
              refine lv_topi (fun v2_4 ev => ?_)
              replace hm := rc_lt_at hm ev
              clear ev
              refine lv_istore_n (lv' := [(2, .int v2_4), (0, .ref a0), (1, .int v1), (3, .int v3)]) hx hb dX6_readNumber_65 rfl hl (by decide) rfl (fun ls hl => ?_)
              obtain ⟨v3_5, ev⟩ : ∃ y : Int32, y = (v3 + 1) := ⟨_, rfl⟩
              replace hm := rc_lt_at hm ev
              refine lv_iinc (v := v3_5) (lv' := [(3, .int v3_5), (2, .int v2_4), (0, .ref a0), (1, .int v1)]) hx hb dX6_readNumber_66 hl (k := 3) rfl (by rw [ev]; rfl) (by decide) rfl (fun ls hl => ?_)
              clear ev
              refine lv_aload_n hx hb dX6_readNumber_69 rfl (lv_at hl 2 rfl) ?_
              refine lv_dup hx hb dX6_readNumber_70 rfl ?_
              refine rg_7_5 hx hb hts hown hK hW h0 tw_2_33 dX6_readNumber_71 ?_
              refine lv_iconst (v := 1) hx hb dX6_readNumber_74 (by decide) ?_
              refine lv_iadd hx hb dX6_readNumber_75 ?_
              refine rp_7_5 hx hb hts hown hK hW hS h0 tw_2_33 dX6_readNumber_76 (fun σ_6 H locs eσ hW hS => ?_)
              replace hm := rc_lt_at hm eσ
              clear eσ
              refine lv_goto (tgt := 4) hx hb dX6_readNumber_79 (by decide) ?_
              exact ih v2_4 v3_5 σ_6 _ _ _ hm hW hS (lv_sub hl [2, 3, 1, 0] rfl)
  unfold f_X6_readNumber at hm
  refine lv_iconst (v := 0) hx hb dX6_readNumber_0 (by decide) ?_
  refine lv_istore_n (lv' := [(2, .int (0 : Int32)), (0, .ref a0), (1, .int u1)]) hx hb dX6_readNumber_1 rfl hl (by decide) rfl (fun ls hl => ?_)
  refine lv_iconst (v := 0) hx hb dX6_readNumber_2 (by decide) ?_
  refine lv_istore_n (lv' := [(3, .int (0 : Int32)), (2, .int (0 : Int32)), (0, .ref a0), (1, .int u1)]) hx hb dX6_readNumber_3 rfl hl (by decide) rfl (fun ls hl => ?_)
  refine lp_4 u1 _ (fun v2_11 v3_12 σ_13 H locs ls hm hW hS hl => ?_) rc_fu (0 : Int32) (0 : Int32) σ _ _ _ hm hW hS (lv_sub hl [2, 3, 1, 0] rfl)
  refine lv_iload_n hx hb dX6_readNumber_82 rfl (lv_at hl 2 rfl) ?_
  refine lv_if_ne (tgt := 88) hx hb dX6_readNumber_83 (by decide) (fun c_17 => ?_) (fun c_17 => ?_)
  · replace hm := rc_f hm c_17
    refine lv_aload_n hx hb dX6_readNumber_88 rfl (lv_at hl 0 rfl) ?_
    refine rg_7_3 hx hb hts hown hK hW h0 tw_2_30 dX6_readNumber_89 ?_
    refine lv_aload_n hx hb dX6_readNumber_92 rfl (lv_at hl 0 rfl) ?_
    refine rg_7_4 hx hb hts hown hK hW h0 tw_2_31 dX6_readNumber_93 ?_
    refine lv_iconst (v := 3) hx hb dX6_readNumber_96 (by decide) ?_
    refine lv_imul hx hb dX6_readNumber_97 ?_
    refine lv_aload_n hx hb dX6_readNumber_98 rfl (lv_at hl 0 rfl) ?_
    refine rg_7_6 hx hb hts hown hK hW h0 tw_2_34 dX6_readNumber_99 ?_
    refine lv_iadd hx hb dX6_readNumber_102 ?_
    refine lv_iload_n hx hb dX6_readNumber_103 rfl (lv_at hl 1 rfl) ?_
    have hi_14 := (rc_ix hm).1
    replace hm := (rc_ix hm).2
    refine rc_iastj (j := (((σ_13 a0 4) * (3 : Int32)) + (σ_13 a0 6)).toNatClampNeg) hx hb hK hW hS (rc_t_7_3 hT h0) (by decide) (fun _ => rfl) hi_14 rfl dX6_readNumber_104 (fun σ_15 H locs eσ hW hS => ?_)
    replace hm := rc_lt_at hm eσ
    clear eσ
    refine lv_aload_n hx hb dX6_readNumber_105 rfl (lv_at hl 0 rfl) ?_
    refine lv_dup hx hb dX6_readNumber_106 rfl ?_
    refine rg_7_6 hx hb hts hown hK hW h0 tw_2_34 dX6_readNumber_107 ?_
    refine lv_iconst (v := 1) hx hb dX6_readNumber_110 (by decide) ?_
    refine lv_iadd hx hb dX6_readNumber_111 ?_
    refine rp_7_6 hx hb hts hown hK hW hS h0 tw_2_34 dX6_readNumber_112 (fun σ_16 H locs eσ hW hS => ?_)
    replace hm := rc_lt_at hm eσ
    clear eσ
    refine lv_iconst (v := 1) hx hb dX6_readNumber_115 (by decide) ?_
    exact rc_ezret hx hb hr hlocks hW hS (Nat.le_of_ble_eq_true rfl) (Nat.le_of_ble_eq_true rfl) rfl hm dX6_readNumber_116
  · replace hm := rc_t hm c_17
    refine lv_iconst (v := 0) hx hb dX6_readNumber_86 (by decide) ?_
    exact rc_ezret hx hb hr hlocks hW hS (Nat.le_of_ble_eq_true rfl) (Nat.le_of_ble_eq_true rfl) rfl hm dX6_readNumber_87
set_option maxHeartbeats 4000000 in
set_option maxRecDepth 100000 in
theorem k_X7_fillUnder (l : Launch) {Y : rc_Y} {sh : Nat → Nat} {rf : rc_F} (hT : rc_T Y sh rf) (a0 : Nat) (u1 : Int32) (u2 : Int32) (h0 : sh a0 = 8) (sz : Nat) (σ σ' : rc_S) (r : Int32) (hm : f_X7_fillUnder rf a0 u1 u2 σ = some (r, σ')) : Met l yX7_fillUnder (Cond.code yX7_fillUnder cX7_fillUnder 6 (some .int) :: rc_big) ({ frames := 1, cells := 0, slots := 0, locals := 20 } : Room) (rc_P Y sh rf σ sz [.ref a0, .int u1, .int u2]) (va_Qi (fun (r' : Int32) (_ : Unit) => r' = r) (fun _ t => rc_W Y sh rf σ' t.heap) (rc_A sh sz)) 0 0 (rc_A sh sz) := by
  refine Met.ofW (cc := cX7_fillUnder) (maxL := 6) (ret := (some .int)) (by decide +kernel) rfl ?_
  intro p e s m args below meth c s₁ B hml hv
  obtain ⟨rfl, hsz, hW, hK, hE⟩ := hv
  have hx := B.exec
  have hb := B.bytes
  have hr := B.returns
  have hts : ∀ w ∈ rc_big, w.before _ s = true := fun w h => atoms_spec (ws := Cond.code yX7_fillUnder cX7_fillUnder 6 (some .int) :: rc_big) B.pre w (List.mem_cons_of_mem _ h)
  have hown : s.vm.findClass RX7 = some m.cls := findClass_of_methodNamed B.named
  have hlocks := B.notSynchronized
  clear B
  subst hsz
  have hS : va_S (rc_A sh s.heap.size) s.heap s.heap [] := va_S.rf
  have hl := lv_entry ([.ref a0, .int u1, .int u2]) (n := 6) (Nat.le_of_ble_eq_true rfl)
  rw [lg_entry_eq]
  generalize (lg_sl ([.ref a0, .int u1, .int u2]) ++ List.replicate (6 - (lg_sl ([.ref a0, .int u1, .int u2])).length) Slot.unset).toArray = ls at hl ⊢
  have hl : lv_has ls 6 [(0, .ref a0), (1, .int u1), (2, .int u2)] := hl
  have lp_5 : ∀ (v1 : Int32) (v2 : Int32) (K : Int32 → Int32 → rc_S → Option (Int32 × rc_S)) (hKK : ∀ (v3 v4 : Int32) (σ : rc_S) (H : Heap) (locs : List Loc) (ls : Array Slot), K v3 v4 σ = some (r, σ') → rc_W Y sh rf σ H → va_S (rc_A sh s.heap.size) s.heap H locs → lv_has ls 6 [(2, .int v2), (3, .int v3)] → W p l e (headSpec (Cond.code yX7_fillUnder cX7_fillUnder 6 (some .int) :: rc_big) ({ frames := 1, cells := 0, slots := 0, locals := 20 } : Room)).room s m (([.ref a0, .int u1, .int u2] : List Value).toArray) below meth c H locs 0 0 (MQ below (va_Qi (fun (r' : Int32) (_ : Unit) => r' = r) (fun _ t => rc_W Y sh rf σ' t.heap) (rc_A sh s.heap.size)) ([.ref a0, .int u1, .int u2] : List Value).toArray s 0 0 (rc_A sh s.heap.size)) (F0 m 113 ls [])) (n : Nat) (v3 v4 : Int32) (σ : rc_S) (H : Heap) (locs : List Loc) (ls : Array Slot), f_X7_fillUnder_5 rf a0 v1 v2 K n v3 v4 σ = some (r, σ') → rc_W Y sh rf σ H → va_S (rc_A sh s.heap.size) s.heap H locs → lv_has ls 6 [(0, .ref a0), (1, .int v1), (2, .int v2), (3, .int v3), (4, .int v4)] → W p l e (headSpec (Cond.code yX7_fillUnder cX7_fillUnder 6 (some .int) :: rc_big) ({ frames := 1, cells := 0, slots := 0, locals := 20 } : Room)).room s m (([.ref a0, .int u1, .int u2] : List Value).toArray) below meth c H locs 0 0 (MQ below (va_Qi (fun (r' : Int32) (_ : Unit) => r' = r) (fun _ t => rc_W Y sh rf σ' t.heap) (rc_A sh s.heap.size)) ([.ref a0, .int u1, .int u2] : List Value).toArray s 0 0 (rc_A sh s.heap.size)) (F0 m 5 ls []) := by
    intro v1 v2 K hKK n
    induction n with
    | zero =>
      intro v3 v4 σ H locs ls hm
      rw [f_X7_fillUnder_5] at hm
      cases hm
    | succ n ih =>
      intro v3 v4 σ H locs ls hm hW hS hl
      rw [f_X7_fillUnder_5] at hm
      refine lv_iload hx hb dX7_fillUnder_5 (lv_at hl 4 rfl) ?_
      refine lv_aload_n hx hb dX7_fillUnder_7 rfl (lv_at hl 0 rfl) ?_
      refine rg_8_0 hx hb hts hown hK hW h0 tw_1_228 dX7_fillUnder_8 ?_
      refine rg_2_2 hx hb hts hown hK hW (rc_t_8_0 hT h0) tw_1_147 dX7_fillUnder_11 ?_
      refine lv_icmp_ge (tgt := 113) hx hb dX7_fillUnder_14 (by decide) (fun c_16 => ?_) (fun c_16 => ?_)
      · replace hm := rc_t hm c_16
        exact hKK v3 v4 σ _ _ _ hm hW hS (lv_sub hl [2, 3] rfl)
      · replace hm := rc_f hm c_16
        refine lv_aload_n hx hb dX7_fillUnder_17 rfl (lv_at hl 0 rfl) ?_
        refine rg_8_0 hx hb hts hown hK hW h0 tw_1_228 dX7_fillUnder_18 ?_
        refine rg_2_1 hx hb hts hown hK hW (rc_t_8_0 hT h0) tw_1_144 dX7_fillUnder_21 ?_
        refine lv_iload hx hb dX7_fillUnder_24 (lv_at hl 4 rfl) ?_
        have hi_1 := (rc_ix hm).1
        replace hm := (rc_ix hm).2
        refine rc_aald hx hb hK hW (rc_t_2_1 hT (rc_t_8_0 hT h0)) (by decide) rfl 4 rfl hi_1 dX7_fillUnder_26 ?_
        refine lv_astore (lv' := [(5, .ref (rf (rf (rf a0 0) 1) v4.toNatClampNeg)), (0, .ref a0), (1, .int v1), (2, .int v2), (3, .int v3), (4, .int v4)]) hx hb dX7_fillUnder_27 hl (by decide) rfl (fun ls hl => ?_)
        refine lv_iload_n hx hb dX7_fillUnder_29 rfl (lv_at hl 4 rfl) ?_
        refine lv_if_le (tgt := 107) hx hb dX7_fillUnder_30 (by decide) (fun c_15 => ?_) (fun c_15 => ?_)
        · replace hm := rc_t hm c_15
          obtain ⟨v4_2, ev⟩ : ∃ y : Int32, y = (v4 + 1) := ⟨_, rfl⟩
          replace hm := rc_lt_at hm ev
          refine lv_iinc (v := v4_2) (lv' := [(4, .int v4_2), (5, .ref (rf (rf (rf a0 0) 1) v4.toNatClampNeg)), (0, .ref a0), (1, .int v1), (2, .int v2), (3, .int v3)]) hx hb dX7_fillUnder_107 hl (k := 5) rfl (by rw [ev]; rfl) (by decide) rfl (fun ls hl => ?_)
          clear ev
          refine lv_goto (tgt := 5) hx hb dX7_fillUnder_110 (by decide) ?_
          exact ih v3 v4_2 σ _ _ _ hm hW hS (lv_sub hl [2, 3, 4, 5, 0] rfl)
        · replace hm := rc_f hm c_15
          refine lv_aload hx hb dX7_fillUnder_33 (lv_at hl 0 rfl) ?_
          refine rg_1_0 hx hb hts hown hK hW (rc_t_25 hT (rc_t_2_1 hT (rc_t_8_0 hT h0)) hi_1) tw_1_86 dX7_fillUnder_35 ?_
          refine lv_iload_n hx hb dX7_fillUnder_38 rfl (lv_at hl 2 rfl) ?_
          refine lv_icmp_ne (tgt := 107) hx hb dX7_fillUnder_39 (by decide) (fun c_14 => ?_) (fun c_14 => ?_)
          · replace hm := rc_f hm c_14
            obtain ⟨v4_3, ev⟩ : ∃ y : Int32, y = (v4 + 1) := ⟨_, rfl⟩
            replace hm := rc_lt_at hm ev
            refine lv_iinc (v := v4_3) (lv' := [(4, .int v4_3), (5, .ref (rf (rf (rf a0 0) 1) v4.toNatClampNeg)), (0, .ref a0), (1, .int v1), (2, .int v2), (3, .int v3)]) hx hb dX7_fillUnder_107 hl (k := 5) rfl (by rw [ev]; rfl) (by decide) rfl (fun ls hl => ?_)
            clear ev
            refine lv_goto (tgt := 5) hx hb dX7_fillUnder_110 (by decide) ?_
            exact ih v3 v4_3 σ _ _ _ hm hW hS (lv_sub hl [2, 3, 4, 5, 0] rfl)
          · replace hm := rc_t hm c_14
            refine lv_aload hx hb dX7_fillUnder_42 (lv_at hl 0 rfl) ?_
            obtain ⟨w_4, σ_4, hc_4, hm0⟩ := rc_bd_inv hm
            clear hm
            refine rc_ci hS (va_runV (As := []) (rest := []) ⟨hx, hb, hml, hown, hts⟩ (k_X0_isEmpty l hT (rf (rf (rf a0 0) 1) v4.toNatClampNeg) (rc_t_25 hT (rc_t_2_1 hT (rc_t_8_0 hT h0)) hi_1) H.size _ _ _ hc_4) (cwV 0 hts (rc_gV tw_4_98 tw_4_99 tw_4_100 tw_1_5 tw_4_101) rfl rfl rfl (by decide +kernel) ⟨Nat.le_of_ble_eq_true rfl, Nat.le_of_ble_eq_true rfl⟩) (rc_preV hT hW hK hE hS (rc_t_25 hT (rc_t_2_1 hT (rc_t_8_0 hT h0)) hi_1) (by decide) rfl (q := (RX0, TX0, 6)) rfl []) rfl rfl hl.1 rfl (lv_room (Nat.le_of_ble_eq_true rfl)) dX7_fillUnder_44 ⟨Nat.le_of_ble_eq_true rfl, Nat.le_of_ble_eq_true rfl⟩) (fun H locs hW hS => ?_)
            have hm := hm0
            clear hm0 hc_4
            refine lv_if_eq (tgt := 107) hx hb dX7_fillUnder_47 (by decide) (fun c_13 => ?_) (fun c_13 => ?_)
            · replace hm := rc_t hm c_13
              obtain ⟨v4_5, ev⟩ : ∃ y : Int32, y = (v4 + 1) := ⟨_, rfl⟩
              replace hm := rc_lt_at hm ev
              refine lv_iinc (v := v4_5) (lv' := [(4, .int v4_5), (5, .ref (rf (rf (rf a0 0) 1) v4.toNatClampNeg)), (0, .ref a0), (1, .int v1), (2, .int v2), (3, .int v3)]) hx hb dX7_fillUnder_107 hl (k := 5) rfl (by rw [ev]; rfl) (by decide) rfl (fun ls hl => ?_)
              clear ev
              refine lv_goto (tgt := 5) hx hb dX7_fillUnder_110 (by decide) ?_
              exact ih v3 v4_5 σ_4 _ _ _ hm hW hS (lv_sub hl [2, 3, 4, 5, 0] rfl)
            · replace hm := rc_f hm c_13
              refine lv_aload hx hb dX7_fillUnder_50 (lv_at hl 0 rfl) ?_
              refine lv_iload_n hx hb dX7_fillUnder_52 rfl (lv_at hl 4 rfl) ?_
              refine lv_bipush (v := 20) hx hb dX7_fillUnder_53 (by decide) ?_
              refine va_mmin hx hb (hml.trans hl.1.symm) hown (hts _ tw_2_155) (hts _ tw_2_156) (hts _ tw_1_15) (hts _ tw_2_157) (Nat.le_of_ble_eq_true rfl) (Nat.le_of_ble_eq_true rfl) (Nat.le_of_ble_eq_true rfl) (Nat.le_of_ble_eq_true rfl) dX7_fillUnder_55 ?_
              refine rp_1_1 hx hb hts hown hK hW hS (rc_t_25 hT (rc_t_2_1 hT (rc_t_8_0 hT h0)) hi_1) tw_1_90 dX7_fillUnder_58 (fun σ_6 H locs eσ hW hS => ?_)
              replace hm := rc_lt_at hm eσ
              clear eσ
              refine lv_aload hx hb dX7_fillUnder_61 (lv_at hl 0 rfl) ?_
              refine lv_aload_n hx hb dX7_fillUnder_63 rfl (lv_at hl 1 rfl) ?_
              refine rg_8_0 hx hb hts hown hK hW h0 tw_1_228 dX7_fillUnder_64 ?_
              refine rg_2_5 hx hb hts hown hK hW (rc_t_8_0 hT h0) tw_1_154 dX7_fillUnder_67 ?_
              refine rp_1_3 hx hb hts hown hK hW hS (rc_t_25 hT (rc_t_2_1 hT (rc_t_8_0 hT h0)) hi_1) tw_1_98 dX7_fillUnder_70 (fun σ_7 H locs eσ hW hS => ?_)
              replace hm := rc_lt_at hm eσ
              clear eσ
              refine lv_aload hx hb dX7_fillUnder_73 (lv_at hl 0 rfl) ?_
              refine lv_aload_n hx hb dX7_fillUnder_75 rfl (lv_at hl 1 rfl) ?_
              refine rg_8_0 hx hb hts hown hK hW h0 tw_1_228 dX7_fillUnder_76 ?_
              refine rg_2_7 hx hb hts hown hK hW (rc_t_8_0 hT h0) tw_1_160 dX7_fillUnder_79 ?_
              refine rp_1_4 hx hb hts hown hK hW hS (rc_t_25 hT (rc_t_2_1 hT (rc_t_8_0 hT h0)) hi_1) tw_1_102 dX7_fillUnder_82 (fun σ_8 H locs eσ hW hS => ?_)
              replace hm := rc_lt_at hm eσ
              clear eσ
              refine lv_aload hx hb dX7_fillUnder_85 (lv_at hl 0 rfl) ?_
              refine lv_aload_n hx hb dX7_fillUnder_87 rfl (lv_at hl 1 rfl) ?_
              refine rg_8_0 hx hb hts hown hK hW h0 tw_1_228 dX7_fillUnder_88 ?_
              refine rg_2_0 hx hb hts hown hK hW (rc_t_8_0 hT h0) tw_1_141 dX7_fillUnder_91 ?_
              refine lv_iload_n hx hb dX7_fillUnder_94 rfl (lv_at hl 2 rfl) ?_
              have hi_9 := (rc_ix hm).1
              replace hm := (rc_ix hm).2
              refine rc_ialdj (j := v1.toNatClampNeg) hx hb hK hW (rc_t_2_0 hT (rc_t_8_0 hT h0)) (by decide) rfl hi_9 rfl dX7_fillUnder_95 ?_
              refine rp_1_5 hx hb hts hown hK hW hS (rc_t_25 hT (rc_t_2_1 hT (rc_t_8_0 hT h0)) hi_1) tw_1_104 dX7_fillUnder_96 (fun σ_10 H locs eσ hW hS => ?_)
              replace hm := rc_lt_at hm eσ
              clear eσ
              refine lv_iload_n hx hb dX7_fillUnder_99 rfl (lv_at hl 4 rfl) ?_
              refine lv_aload hx hb dX7_fillUnder_100 (lv_at hl 0 rfl) ?_
              refine rg_1_1 hx hb hts hown hK hW (rc_t_25 hT (rc_t_2_1 hT (rc_t_8_0 hT h0)) hi_1) tw_1_90 dX7_fillUnder_102 ?_
              refine lv_isub hx hb dX7_fillUnder_105 ?_
              refine lv_topi (fun v3_11 ev => ?_)
              replace hm := rc_lt_at hm ev
              clear ev
              refine lv_istore_n (lv' := [(3, .int v3_11), (5, .ref (rf (rf (rf a0 0) 1) v4.toNatClampNeg)), (0, .ref a0), (1, .int v1), (2, .int v2), (4, .int v4)]) hx hb dX7_fillUnder_106 rfl hl (by decide) rfl (fun ls hl => ?_)
              obtain ⟨v4_12, ev⟩ : ∃ y : Int32, y = (v4 + 1) := ⟨_, rfl⟩
              replace hm := rc_lt_at hm ev
              refine lv_iinc (v := v4_12) (lv' := [(4, .int v4_12), (3, .int v3_11), (5, .ref (rf (rf (rf a0 0) 1) v4.toNatClampNeg)), (0, .ref a0), (1, .int v1), (2, .int v2)]) hx hb dX7_fillUnder_107 hl (k := 5) rfl (by rw [ev]; rfl) (by decide) rfl (fun ls hl => ?_)
              clear ev
              refine lv_goto (tgt := 5) hx hb dX7_fillUnder_110 (by decide) ?_
              exact ih v3_11 v4_12 σ_10 _ _ _ hm hW hS (lv_sub hl [3, 4, 5, 1, 0] rfl)
  unfold f_X7_fillUnder at hm
  refine lv_iload_n hx hb dX7_fillUnder_0 rfl (lv_at hl 2 rfl) ?_
  refine lv_istore_n (lv' := [(3, .int u2), (0, .ref a0), (1, .int u1), (2, .int u2)]) hx hb dX7_fillUnder_1 rfl hl (by decide) rfl (fun ls hl => ?_)
  refine lv_iconst (v := 0) hx hb dX7_fillUnder_2 (by decide) ?_
  refine lv_istore (lv' := [(4, .int (0 : Int32)), (3, .int u2), (0, .ref a0), (1, .int u1), (2, .int u2)]) hx hb dX7_fillUnder_3 hl (by decide) rfl (fun ls hl => ?_)
  refine lp_5 u1 u2 _ (fun v3_17 v4_18 σ_19 H locs ls hm hW hS hl => ?_) rc_fu u2 (0 : Int32) σ _ _ _ hm hW hS (lv_sub hl [2, 3, 4, 1, 0] rfl)
  refine lv_iload_n hx hb dX7_fillUnder_113 rfl (lv_at hl 0 rfl) ?_
  refine lv_iload_n hx hb dX7_fillUnder_114 rfl (lv_at hl 1 rfl) ?_
  refine lv_isub hx hb dX7_fillUnder_115 ?_
  exact rc_eiret hx hb hr hlocks hW hS (Nat.le_of_ble_eq_true rfl) (Nat.le_of_ble_eq_true rfl) hm dX7_fillUnder_116
set_option maxHeartbeats 4000000 in
set_option maxRecDepth 100000 in
theorem k_X7_tell (l : Launch) {Y : rc_Y} {sh : Nat → Nat} {rf : rc_F} (hT : rc_T Y sh rf) (a0 : Nat) (u1 : Int32) (u2 : Int32) (h0 : sh a0 = 8) (sz : Nat) (σ σ' : rc_S) (r : Unit) (hm : f_X7_tell rf a0 u1 u2 σ = some (r, σ')) : Met l yX7_tell (Cond.code yX7_tell cX7_tell 4 none :: rc_big) ({ frames := 2, cells := 0, slots := 0, locals := 43 } : Room) (rc_P Y sh rf σ sz [.ref a0, .int u1, .int u2]) (va_Qv (fun (_ : Unit) => True) (fun _ t => rc_W Y sh rf σ' t.heap) (rc_A sh sz)) 0 0 (rc_A sh sz) := by
  refine Met.ofW (cc := cX7_tell) (maxL := 4) (ret := none) (by decide +kernel) rfl ?_
  intro p e s m args below meth c s₁ B hml hv
  obtain ⟨rfl, hsz, hW, hK, hE⟩ := hv
  have hx := B.exec
  have hb := B.bytes
  have hr := B.returns
  have hts : ∀ w ∈ rc_big, w.before _ s = true := fun w h => atoms_spec (ws := Cond.code yX7_tell cX7_tell 4 none :: rc_big) B.pre w (List.mem_cons_of_mem _ h)
  have hown : s.vm.findClass RX7 = some m.cls := findClass_of_methodNamed B.named
  have hlocks := B.notSynchronized
  clear B
  subst hsz
  have hS : va_S (rc_A sh s.heap.size) s.heap s.heap [] := va_S.rf
  have hl := lv_entry ([.ref a0, .int u1, .int u2]) (n := 4) (Nat.le_of_ble_eq_true rfl)
  rw [lg_entry_eq]
  generalize (lg_sl ([.ref a0, .int u1, .int u2]) ++ List.replicate (4 - (lg_sl ([.ref a0, .int u1, .int u2])).length) Slot.unset).toArray = ls at hl ⊢
  have hl : lv_has ls 4 [(0, .ref a0), (1, .int u1), (2, .int u2)] := hl
  unfold f_X7_tell at hm
  refine lv_aload_n hx hb dX7_tell_0 rfl (lv_at hl 0 rfl) ?_
  refine rg_8_0 hx hb hts hown hK hW h0 tw_1_228 dX7_tell_1 ?_
  refine lv_aload_n hx hb dX7_tell_4 rfl (lv_at hl 0 rfl) ?_
  refine rg_8_0 hx hb hts hown hK hW h0 tw_1_228 dX7_tell_5 ?_
  refine rg_2_5 hx hb hts hown hK hW (rc_t_8_0 hT h0) tw_1_154 dX7_tell_8 ?_
  obtain ⟨w_1, σ_1, hc_1, hm0⟩ := rc_bd_inv hm
  clear hm
  refine rc_cr hS (va_runV (As := [.int (σ (rf a0 0) 5)]) (rest := []) ⟨hx, hb, hml, hown, hts⟩ (k_X1_rainfallOf l hT (rf a0 0) (σ (rf a0 0) 5) (rc_t_8_0 hT h0) s.heap.size _ _ _ hc_1) (cwV 1 hts (rc_gV tw_4_111 tw_4_112 tw_4_113 tw_1_3 tw_4_114) rfl rfl rfl (by decide +kernel) ⟨Nat.le_of_ble_eq_true rfl, Nat.le_of_ble_eq_true rfl⟩) (rc_preV hT hW hK hE hS (rc_t_8_0 hT h0) (by decide) rfl (q := (RX1, TX1, 14)) rfl [.int (σ (rf a0 0) 5)]) rfl rfl hl.1 rfl (lv_room (Nat.le_of_ble_eq_true rfl)) dX7_tell_11 ⟨Nat.le_of_ble_eq_true rfl, Nat.le_of_ble_eq_true rfl⟩) (fun H locs hr_1 hW hS => ?_)
  have hm := hm0
  clear hm0 hc_1
  refine lv_astore_n (lv' := [(3, .ref w_1), (0, .ref a0), (1, .int u1), (2, .int u2)]) hx hb dX7_tell_14 rfl hl (by decide) rfl (fun ls hl => ?_)
  refine lv_aload_n hx hb dX7_tell_15 rfl (lv_at hl 0 rfl) ?_
  refine lv_iload_n hx hb dX7_tell_16 rfl (lv_at hl 2 rfl) ?_
  refine rp_5_0 hx hb hts hown hK hW hS hr_1 tw_1_125 dX7_tell_17 (fun σ_2 H locs eσ hW hS => ?_)
  replace hm := rc_lt_at hm eσ
  clear eσ
  refine lv_aload_n hx hb dX7_tell_20 rfl (lv_at hl 0 rfl) ?_
  refine lv_aload_n hx hb dX7_tell_21 rfl (lv_at hl 1 rfl) ?_
  refine rg_8_0 hx hb hts hown hK hW h0 tw_1_228 dX7_tell_22 ?_
  refine rg_2_7 hx hb hts hown hK hW (rc_t_8_0 hT h0) tw_1_160 dX7_tell_25 ?_
  refine rp_5_1 hx hb hts hown hK hW hS hr_1 tw_1_128 dX7_tell_28 (fun σ_3 H locs eσ hW hS => ?_)
  replace hm := rc_lt_at hm eσ
  clear eσ
  refine lv_aload_n hx hb dX7_tell_31 rfl (lv_at hl 0 rfl) ?_
  refine lv_iload_n hx hb dX7_tell_32 rfl (lv_at hl 3 rfl) ?_
  refine rp_5_2 hx hb hts hown hK hW hS hr_1 tw_1_131 dX7_tell_33 (fun σ_4 H locs eσ hW hS => ?_)
  replace hm := rc_lt_at hm eσ
  clear eσ
  refine lv_aload_n hx hb dX7_tell_36 rfl (lv_at hl 1 rfl) ?_
  refine rg_8_0 hx hb hts hown hK hW h0 tw_1_228 dX7_tell_37 ?_
  refine lv_dup hx hb dX7_tell_40 rfl ?_
  refine rg_2_5 hx hb hts hown hK hW (rc_t_8_0 hT h0) tw_1_154 dX7_tell_41 ?_
  refine lv_iconst (v := 1) hx hb dX7_tell_44 (by decide) ?_
  refine lv_iadd hx hb dX7_tell_45 ?_
  refine rp_2_5 hx hb hts hown hK hW hS (rc_t_8_0 hT h0) tw_1_154 dX7_tell_46 (fun σ_5 H locs eσ hW hS => ?_)
  replace hm := rc_lt_at hm eσ
  clear eσ
  exact rc_evret hx hb hr hlocks hW hS (Nat.le_of_ble_eq_true rfl) (Nat.le_of_ble_eq_true rfl) hm dX7_tell_49
set_option maxHeartbeats 4000000 in
set_option maxRecDepth 100000 in
theorem k_X7_letLeave (l : Launch) {Y : rc_Y} {sh : Nat → Nat} {rf : rc_F} (hT : rc_T Y sh rf) (a0 : Nat) (u1 : Int32) (h0 : sh a0 = 8) (sz : Nat) (σ σ' : rc_S) (r : Int32) (hm : f_X7_letLeave rf a0 u1 σ = some (r, σ')) : Met l yX7_letLeave (Cond.code yX7_letLeave cX7_letLeave 2 (some .int) :: rc_big) ({ frames := 1, cells := 0, slots := 0, locals := 22 } : Room) (rc_P Y sh rf σ sz [.ref a0, .int u1]) (va_Qi (fun (r' : Int32) (_ : Unit) => r' = r) (fun _ t => rc_W Y sh rf σ' t.heap) (rc_A sh sz)) 0 0 (rc_A sh sz) := by
  refine Met.ofW (cc := cX7_letLeave) (maxL := 2) (ret := (some .int)) (by decide +kernel) rfl ?_
  intro p e s m args below meth c s₁ B hml hv
  obtain ⟨rfl, hsz, hW, hK, hE⟩ := hv
  have hx := B.exec
  have hb := B.bytes
  have hr := B.returns
  have hts : ∀ w ∈ rc_big, w.before _ s = true := fun w h => atoms_spec (ws := Cond.code yX7_letLeave cX7_letLeave 2 (some .int) :: rc_big) B.pre w (List.mem_cons_of_mem _ h)
  have hown : s.vm.findClass RX7 = some m.cls := findClass_of_methodNamed B.named
  have hlocks := B.notSynchronized
  clear B
  subst hsz
  have hS : va_S (rc_A sh s.heap.size) s.heap s.heap [] := va_S.rf
  have hl := lv_entry ([.ref a0, .int u1]) (n := 2) (Nat.le_of_ble_eq_true rfl)
  rw [lg_entry_eq]
  generalize (lg_sl ([.ref a0, .int u1]) ++ List.replicate (2 - (lg_sl ([.ref a0, .int u1])).length) Slot.unset).toArray = ls at hl ⊢
  have hl : lv_has ls 2 [(0, .ref a0), (1, .int u1)] := hl
  unfold f_X7_letLeave at hm
  refine lv_aload_n hx hb dX7_letLeave_0 rfl (lv_at hl 0 rfl) ?_
  refine rg_8_0 hx hb hts hown hK hW h0 tw_1_228 dX7_letLeave_1 ?_
  refine rg_2_3 hx hb hts hown hK hW (rc_t_8_0 hT h0) tw_1_150 dX7_letLeave_4 ?_
  refine lv_iload_n hx hb dX7_letLeave_7 rfl (lv_at hl 1 rfl) ?_
  obtain ⟨w_1, σ_1, hc_1, hm0⟩ := rc_bd_inv hm
  clear hm
  refine rc_ci hS (va_runV (As := [.int u1]) (rest := []) ⟨hx, hb, hml, hown, hts⟩ (k_X3_has l hT (rf (rf a0 0) 3) u1 (rc_t_2_3 hT (rc_t_8_0 hT h0)) s.heap.size _ _ _ hc_1) (cwV 1 hts (rc_gV tw_5_19 tw_5_20 tw_5_21 tw_1_4 tw_5_22) rfl rfl rfl (by decide +kernel) ⟨Nat.le_of_ble_eq_true rfl, Nat.le_of_ble_eq_true rfl⟩) (rc_preV hT hW hK hE hS (rc_t_2_3 hT (rc_t_8_0 hT h0)) (by decide) rfl (q := (RX3, TX3, 3)) rfl [.int u1]) rfl rfl hl.1 rfl (lv_room (Nat.le_of_ble_eq_true rfl)) dX7_letLeave_8 ⟨Nat.le_of_ble_eq_true rfl, Nat.le_of_ble_eq_true rfl⟩) (fun H locs hW hS => ?_)
  have hm := hm0
  clear hm0 hc_1
  refine lv_if_ne (tgt := 33) hx hb dX7_letLeave_11 (by decide) (fun c_4 => ?_) (fun c_4 => ?_)
  · replace hm := rc_f hm c_4
    refine lv_aload_n hx hb dX7_letLeave_33 rfl (lv_at hl 0 rfl) ?_
    refine rg_8_0 hx hb hts hown hK hW h0 tw_1_228 dX7_letLeave_34 ?_
    refine rg_2_3 hx hb hts hown hK hW (rc_t_8_0 hT h0) tw_1_150 dX7_letLeave_37 ?_
    refine lv_iload_n hx hb dX7_letLeave_40 rfl (lv_at hl 1 rfl) ?_
    obtain ⟨w_2, σ_2, hc_2, hm0⟩ := rc_bd_inv hm
    clear hm
    refine rc_cv hS (va_runV (As := [.int u1]) (rest := []) ⟨hx, hb, hml, hown, hts⟩ (k_X3_remove l hT (rf (rf a0 0) 3) u1 (rc_t_2_3 hT (rc_t_8_0 hT h0)) H.size _ _ _ hc_2) (cwV 1 hts (rc_gV tw_5_23 tw_5_24 tw_5_25 tw_1_4 tw_5_26) rfl rfl rfl (by decide +kernel) ⟨Nat.le_of_ble_eq_true rfl, Nat.le_of_ble_eq_true rfl⟩) (rc_preV hT hW hK hE hS (rc_t_2_3 hT (rc_t_8_0 hT h0)) (by decide) rfl (q := (RX3, TX3, 3)) rfl [.int u1]) rfl rfl hl.1 rfl (lv_room (Nat.le_of_ble_eq_true rfl)) dX7_letLeave_41 ⟨Nat.le_of_ble_eq_true rfl, Nat.le_of_ble_eq_true rfl⟩) (fun H locs hW hS => ?_)
    have hm := hm0
    clear hm0 hc_2
    refine lv_aload_n hx hb dX7_letLeave_44 rfl (lv_at hl 0 rfl) ?_
    refine rg_8_0 hx hb hts hown hK hW h0 tw_1_228 dX7_letLeave_45 ?_
    refine rg_2_3 hx hb hts hown hK hW (rc_t_8_0 hT h0) tw_1_150 dX7_letLeave_48 ?_
    refine rg_4_2 hx hb hts hown hK hW (rc_t_2_3 hT (rc_t_8_0 hT h0)) tw_1_67 dX7_letLeave_51 ?_
    exact rc_eiret hx hb hr hlocks hW hS (Nat.le_of_ble_eq_true rfl) (Nat.le_of_ble_eq_true rfl) hm dX7_letLeave_54
  · replace hm := rc_t hm c_4
    refine lv_aload_n hx hb dX7_letLeave_14 rfl (lv_at hl 0 rfl) ?_
    refine rg_8_1 hx hb hts hown hK hW h0 tw_1_230 dX7_letLeave_15 ?_
    refine lv_iconst (v := 4) hx hb dX7_letLeave_18 (by decide) ?_
    refine lv_aload_n hx hb dX7_letLeave_19 rfl (lv_at hl 0 rfl) ?_
    refine rg_8_0 hx hb hts hown hK hW h0 tw_1_228 dX7_letLeave_20 ?_
    refine rg_2_3 hx hb hts hown hK hW (rc_t_8_0 hT h0) tw_1_150 dX7_letLeave_23 ?_
    refine rg_4_2 hx hb hts hown hK hW (rc_t_2_3 hT (rc_t_8_0 hT h0)) tw_1_67 dX7_letLeave_26 ?_
    obtain ⟨w_3, σ_3, hc_3, hm0⟩ := rc_bd_inv hm
    clear hm
    refine rc_ci hS (va_runV (As := [.int (4 : Int32), .int (σ_1 (rf (rf a0 0) 3) 2)]) (rest := []) ⟨hx, hb, hml, hown, hts⟩ (k_X5_because l hT (rf a0 1) (4 : Int32) (σ_1 (rf (rf a0 0) 3) 2) (rc_t_8_1 hT h0) H.size _ _ _ hc_3) (cwV 2 hts (rc_gV tw_4_87 tw_4_88 tw_4_89 tw_1_7 tw_4_90) rfl rfl rfl (by decide +kernel) ⟨Nat.le_of_ble_eq_true rfl, Nat.le_of_ble_eq_true rfl⟩) (rc_preV hT hW hK hE hS (rc_t_8_1 hT h0) (by decide) rfl (q := (RX5, TX5, 3)) rfl [.int (4 : Int32), .int (σ_1 (rf (rf a0 0) 3) 2)]) rfl rfl hl.1 rfl (lv_room (Nat.le_of_ble_eq_true rfl)) dX7_letLeave_29 ⟨Nat.le_of_ble_eq_true rfl, Nat.le_of_ble_eq_true rfl⟩) (fun H locs hW hS => ?_)
    have hm := hm0
    clear hm0 hc_3
    exact rc_eiret hx hb hr hlocks hW hS (Nat.le_of_ble_eq_true rfl) (Nat.le_of_ble_eq_true rfl) hm dX7_letLeave_32
set_option maxHeartbeats 4000000 in
set_option maxRecDepth 100000 in
theorem k_X7_letYearGoBy (l : Launch) {Y : rc_Y} {sh : Nat → Nat} {rf : rc_F} (hT : rc_T Y sh rf) (a0 : Nat) (h0 : sh a0 = 8) (sz : Nat) (σ σ' : rc_S) (r : Int32) (hm : f_X7_letYearGoBy rf a0 σ = some (r, σ')) : Met l yX7_letYearGoBy (Cond.code yX7_letYearGoBy cX7_letYearGoBy 3 (some .int) :: rc_big) ({ frames := 1, cells := 0, slots := 0, locals := 15 } : Room) (rc_P Y sh rf σ sz [.ref a0]) (va_Qi (fun (r' : Int32) (_ : Unit) => r' = r) (fun _ t => rc_W Y sh rf σ' t.heap) (rc_A sh sz)) 0 0 (rc_A sh sz) := by
  refine Met.ofW (cc := cX7_letYearGoBy) (maxL := 3) (ret := (some .int)) (by decide +kernel) rfl ?_
  intro p e s m args below meth c s₁ B hml hv
  obtain ⟨rfl, hsz, hW, hK, hE⟩ := hv
  have hx := B.exec
  have hb := B.bytes
  have hr := B.returns
  have hts : ∀ w ∈ rc_big, w.before _ s = true := fun w h => atoms_spec (ws := Cond.code yX7_letYearGoBy cX7_letYearGoBy 3 (some .int) :: rc_big) B.pre w (List.mem_cons_of_mem _ h)
  have hown : s.vm.findClass RX7 = some m.cls := findClass_of_methodNamed B.named
  have hlocks := B.notSynchronized
  clear B
  subst hsz
  have hS : va_S (rc_A sh s.heap.size) s.heap s.heap [] := va_S.rf
  have hl := lv_entry ([.ref a0]) (n := 3) (Nat.le_of_ble_eq_true rfl)
  rw [lg_entry_eq]
  generalize (lg_sl ([.ref a0]) ++ List.replicate (3 - (lg_sl ([.ref a0])).length) Slot.unset).toArray = ls at hl ⊢
  have hl : lv_has ls 3 [(0, .ref a0)] := hl
  have lp_10 : ∀ (v1 : Int32) (K : Int32 → rc_S → Option (Int32 × rc_S)) (hKK : ∀ (v2 : Int32) (σ : rc_S) (H : Heap) (locs : List Loc) (ls : Array Slot), K v2 σ = some (r, σ') → rc_W Y sh rf σ H → va_S (rc_A sh s.heap.size) s.heap H locs → lv_has ls 3 [(0, .ref a0), (1, .int v1)] → W p l e (headSpec (Cond.code yX7_letYearGoBy cX7_letYearGoBy 3 (some .int) :: rc_big) ({ frames := 1, cells := 0, slots := 0, locals := 15 } : Room)).room s m (([.ref a0] : List Value).toArray) below meth c H locs 0 0 (MQ below (va_Qi (fun (r' : Int32) (_ : Unit) => r' = r) (fun _ t => rc_W Y sh rf σ' t.heap) (rc_A sh s.heap.size)) ([.ref a0] : List Value).toArray s 0 0 (rc_A sh s.heap.size)) (F0 m 46 ls [])) (n : Nat) (v2 : Int32) (σ : rc_S) (H : Heap) (locs : List Loc) (ls : Array Slot), f_X7_letYearGoBy_10 rf a0 v1 K n v2 σ = some (r, σ') → rc_W Y sh rf σ H → va_S (rc_A sh s.heap.size) s.heap H locs → lv_has ls 3 [(0, .ref a0), (1, .int v1), (2, .int v2)] → W p l e (headSpec (Cond.code yX7_letYearGoBy cX7_letYearGoBy 3 (some .int) :: rc_big) ({ frames := 1, cells := 0, slots := 0, locals := 15 } : Room)).room s m (([.ref a0] : List Value).toArray) below meth c H locs 0 0 (MQ below (va_Qi (fun (r' : Int32) (_ : Unit) => r' = r) (fun _ t => rc_W Y sh rf σ' t.heap) (rc_A sh s.heap.size)) ([.ref a0] : List Value).toArray s 0 0 (rc_A sh s.heap.size)) (F0 m 10 ls []) := by
    intro v1 K hKK n
    induction n with
    | zero =>
      intro v2 σ H locs ls hm
      rw [f_X7_letYearGoBy_10] at hm
      cases hm
    | succ n ih =>
      intro v2 σ H locs ls hm hW hS hl
      rw [f_X7_letYearGoBy_10] at hm
      refine lv_iload_n hx hb dX7_letYearGoBy_10 rfl (lv_at hl 2 rfl) ?_
      refine lv_iconst (v := 4) hx hb dX7_letYearGoBy_11 (by decide) ?_
      refine lv_icmp_ge (tgt := 46) hx hb dX7_letYearGoBy_12 (by decide) (fun c_6 => ?_) (fun c_6 => ?_)
      · replace hm := rc_t hm c_6
        exact hKK v2 σ _ _ _ hm hW hS (lv_sub hl [0, 1] rfl)
      · replace hm := rc_f hm c_6
        refine lv_aload_n hx hb dX7_letYearGoBy_15 rfl (lv_at hl 0 rfl) ?_
        refine rg_8_0 hx hb hts hown hK hW h0 tw_1_228 dX7_letYearGoBy_16 ?_
        refine rg_2_0 hx hb hts hown hK hW (rc_t_8_0 hT h0) tw_1_141 dX7_letYearGoBy_19 ?_
        refine lv_iload_n hx hb dX7_letYearGoBy_22 rfl (lv_at hl 2 rfl) ?_
        refine lv_aload_n hx hb dX7_letYearGoBy_23 rfl (lv_at hl 0 rfl) ?_
        refine rg_8_0 hx hb hts hown hK hW h0 tw_1_228 dX7_letYearGoBy_24 ?_
        refine rg_2_0 hx hb hts hown hK hW (rc_t_8_0 hT h0) tw_1_141 dX7_letYearGoBy_27 ?_
        refine lv_iload_n hx hb dX7_letYearGoBy_30 rfl (lv_at hl 2 rfl) ?_
        have hi_2 := (rc_ix hm).1
        replace hm := (rc_ix hm).2
        refine rc_ialdj (j := v2.toNatClampNeg) hx hb hK hW (rc_t_2_0 hT (rc_t_8_0 hT h0)) (by decide) rfl hi_2 rfl dX7_letYearGoBy_31 ?_
        refine lv_iconst (v := 1) hx hb dX7_letYearGoBy_32 (by decide) ?_
        refine lv_iadd hx hb dX7_letYearGoBy_33 ?_
        refine lv_bipush (v := 9) hx hb dX7_letYearGoBy_34 (by decide) ?_
        refine va_mmin hx hb (hml.trans hl.1.symm) hown (hts _ tw_2_155) (hts _ tw_2_156) (hts _ tw_1_15) (hts _ tw_2_157) (Nat.le_of_ble_eq_true rfl) (Nat.le_of_ble_eq_true rfl) (Nat.le_of_ble_eq_true rfl) (Nat.le_of_ble_eq_true rfl) dX7_letYearGoBy_36 ?_
        have hi_3 := (rc_ix hm).1
        replace hm := (rc_ix hm).2
        refine rc_iastj (j := v2.toNatClampNeg) hx hb hK hW hS (rc_t_2_0 hT (rc_t_8_0 hT h0)) (by decide) (fun _ => rfl) hi_3 rfl dX7_letYearGoBy_39 (fun σ_4 H locs eσ hW hS => ?_)
        replace hm := rc_lt_at hm eσ
        clear eσ
        obtain ⟨v2_5, ev⟩ : ∃ y : Int32, y = (v2 + 1) := ⟨_, rfl⟩
        replace hm := rc_lt_at hm ev
        refine lv_iinc (v := v2_5) (lv' := [(2, .int v2_5), (0, .ref a0), (1, .int v1)]) hx hb dX7_letYearGoBy_40 hl (k := 2) rfl (by rw [ev]; rfl) (by decide) rfl (fun ls hl => ?_)
        clear ev
        refine lv_goto (tgt := 10) hx hb dX7_letYearGoBy_43 (by decide) ?_
        exact ih v2_5 σ_4 _ _ _ hm hW hS (lv_sub hl [1, 2, 0] rfl)
  unfold f_X7_letYearGoBy at hm
  refine lv_aload_n hx hb dX7_letYearGoBy_0 rfl (lv_at hl 0 rfl) ?_
  refine rg_8_0 hx hb hts hown hK hW h0 tw_1_228 dX7_letYearGoBy_1 ?_
  refine rg_2_6 hx hb hts hown hK hW (rc_t_8_0 hT h0) tw_1_157 dX7_letYearGoBy_4 ?_
  refine lv_topi (fun v1_1 ev => ?_)
  replace hm := rc_lt_at hm ev
  clear ev
  refine lv_istore_n (lv' := [(1, .int v1_1), (0, .ref a0)]) hx hb dX7_letYearGoBy_7 rfl hl (by decide) rfl (fun ls hl => ?_)
  refine lv_iconst (v := 0) hx hb dX7_letYearGoBy_8 (by decide) ?_
  refine lv_istore_n (lv' := [(2, .int (0 : Int32)), (1, .int v1_1), (0, .ref a0)]) hx hb dX7_letYearGoBy_9 rfl hl (by decide) rfl (fun ls hl => ?_)
  refine lp_10 v1_1 _ (fun v2_7 σ_8 H locs ls hm hW hS hl => ?_) rc_fu (0 : Int32) σ _ _ _ hm hW hS (lv_sub hl [2, 1, 0] rfl)
  refine lv_aload_n hx hb dX7_letYearGoBy_46 rfl (lv_at hl 0 rfl) ?_
  refine rg_8_0 hx hb hts hown hK hW h0 tw_1_228 dX7_letYearGoBy_47 ?_
  refine lv_iconst (v := 0) hx hb dX7_letYearGoBy_50 (by decide) ?_
  refine rp_2_6 hx hb hts hown hK hW hS (rc_t_8_0 hT h0) tw_1_157 dX7_letYearGoBy_51 (fun σ_9 H locs eσ hW hS => ?_)
  replace hm := rc_lt_at hm eσ
  clear eσ
  refine lv_aload_n hx hb dX7_letYearGoBy_54 rfl (lv_at hl 0 rfl) ?_
  refine rg_8_0 hx hb hts hown hK hW h0 tw_1_228 dX7_letYearGoBy_55 ?_
  refine lv_dup hx hb dX7_letYearGoBy_58 rfl ?_
  refine rg_2_7 hx hb hts hown hK hW (rc_t_8_0 hT h0) tw_1_160 dX7_letYearGoBy_59 ?_
  refine lv_iconst (v := 1) hx hb dX7_letYearGoBy_62 (by decide) ?_
  refine lv_iadd hx hb dX7_letYearGoBy_63 ?_
  refine rp_2_7 hx hb hts hown hK hW hS (rc_t_8_0 hT h0) tw_1_160 dX7_letYearGoBy_64 (fun σ_10 H locs eσ hW hS => ?_)
  replace hm := rc_lt_at hm eσ
  clear eσ
  refine lv_iload_n hx hb dX7_letYearGoBy_67 rfl (lv_at hl 1 rfl) ?_
  exact rc_eiret hx hb hr hlocks hW hS (Nat.le_of_ble_eq_true rfl) (Nat.le_of_ble_eq_true rfl) hm dX7_letYearGoBy_68
set_option maxHeartbeats 4000000 in
set_option maxRecDepth 100000 in
theorem k_X8_stormOf (l : Launch) (hl9 : l.stackTraces = false) {Y : rc_Y} {sh : Nat → Nat} {rf : rc_F} (hT : rc_T Y sh rf) (a0 : Nat) (u1 : Int32) (u2 : Int32) (h0 : sh a0 = 9) (sz : Nat) (σ σ' : rc_S) (k : Nat) (r : Int32) (hm : f_X8_stormOf rf a0 u1 u2 σ = some (k, r, σ')) : vx_Met l yX8_stormOf (Cond.code yX8_stormOf cX8_stormOf 4 (some .int) :: rc_big) ({ frames := 6, cells := 1, slots := 6, locals := 81 } : Room) (rc_P Y sh rf σ sz [.ref a0, .int u1, .int u2]) (va_Qi (fun (r' : Int32) (_ : Unit) => k = 0 ∧ r' = r) (fun _ t => rc_W Y sh rf σ' t.heap) (rc_A sh sz)) (rc_XC Y sh rf σ' k sz) 1 6 (rc_A sh sz) := by
  refine vx_ofW (cc := cX8_stormOf) (maxL := 4) (ret := (some .int)) (by decide +kernel) rfl ?_
  intro p e s m args below meth c s₁ B hml hout hv
  obtain ⟨rfl, hsz, hW, hK, hE⟩ := hv
  have hx := B.exec
  have hb := B.bytes
  have hr := B.returns
  have hts : ∀ w ∈ rc_big, w.before _ s = true := fun w h => atoms_spec (ws := Cond.code yX8_stormOf cX8_stormOf 4 (some .int) :: rc_big) B.pre w (List.mem_cons_of_mem _ h)
  have hown : s.vm.findClass RX8 = some m.cls := findClass_of_methodNamed B.named
  have hlocks := B.notSynchronized
  clear B
  subst hsz
  have hS : va_S (rc_A sh s.heap.size) s.heap s.heap [] := va_S.rf
  have hl := lv_entry ([.ref a0, .int u1, .int u2]) (n := 4) (Nat.le_of_ble_eq_true rfl)
  rw [lg_entry_eq]
  generalize (lg_sl ([.ref a0, .int u1, .int u2]) ++ List.replicate (4 - (lg_sl ([.ref a0, .int u1, .int u2])).length) Slot.unset).toArray = ls at hl ⊢
  have hl : lv_has ls 4 [(0, .ref a0), (1, .int u1), (2, .int u2)] := hl
  unfold f_X8_stormOf at hm
  refine lv_aload_n hx hb dX8_stormOf_0 rfl (lv_at hl 0 rfl) ?_
  refine rg_9_1 hx hb hts hown hK hW h0 tw_2_85 dX8_stormOf_1 ?_
  refine lv_iload_n hx hb dX8_stormOf_4 rfl (lv_at hl 1 rfl) ?_
  obtain ⟨w_1, σ_1, hc_1, hm0⟩ := rc_bd_inv hm
  clear hm
  refine rc_ci hS (va_runV (As := [.int u1]) (rest := []) ⟨hx, hb, hml, hown, hts⟩ (k_X1_isLateStorm l hT (rf a0 1) u1 (rc_t_9_1 hT h0) s.heap.size _ _ _ hc_1) (cwV 1 hts (rc_gV tw_6_36 tw_6_37 tw_6_38 tw_1_3 tw_6_39) rfl rfl rfl (by decide +kernel) ⟨Nat.le_of_ble_eq_true rfl, Nat.le_of_ble_eq_true rfl⟩) (rc_preV hT hW hK hE hS (rc_t_9_1 hT h0) (by decide) rfl (q := (RX1, TX1, 14)) rfl [.int u1]) rfl rfl hl.1 rfl (lv_room (Nat.le_of_ble_eq_true rfl)) dX8_stormOf_5 ⟨Nat.le_of_ble_eq_true rfl, Nat.le_of_ble_eq_true rfl⟩) (fun H locs hW hS => ?_)
  have hm := hm0
  clear hm0 hc_1
  refine lv_if_ne (tgt := 19) hx hb dX8_stormOf_8 (by decide) (fun c_6 => ?_) (fun c_6 => ?_)
  · replace hm := rc_f hm c_6
    refine lv_aload_n hx hb dX8_stormOf_19 rfl (lv_at hl 0 rfl) ?_
    refine rg_9_1 hx hb hts hown hK hW h0 tw_2_85 dX8_stormOf_20 ?_
    refine lv_iload_n hx hb dX8_stormOf_23 rfl (lv_at hl 1 rfl) ?_
    obtain ⟨w_2, σ_2, hc_2, hm0⟩ := rc_bd_inv hm
    clear hm
    refine rc_cr hS (va_runV (As := [.int u1]) (rest := []) ⟨hx, hb, hml, hown, hts⟩ (k_X1_rainfallOf l hT (rf a0 1) u1 (rc_t_9_1 hT h0) H.size _ _ _ hc_2) (cwV 1 hts (rc_gV tw_6_40 tw_4_112 tw_4_113 tw_1_3 tw_4_114) rfl rfl rfl (by decide +kernel) ⟨Nat.le_of_ble_eq_true rfl, Nat.le_of_ble_eq_true rfl⟩) (rc_preV hT hW hK hE hS (rc_t_9_1 hT h0) (by decide) rfl (q := (RX1, TX1, 14)) rfl [.int u1]) rfl rfl hl.1 rfl (lv_room (Nat.le_of_ble_eq_true rfl)) dX8_stormOf_24 ⟨Nat.le_of_ble_eq_true rfl, Nat.le_of_ble_eq_true rfl⟩) (fun H locs hr_2 hW hS => ?_)
    have hm := hm0
    clear hm0 hc_2
    refine lv_astore_n (lv' := [(3, .ref w_2), (0, .ref a0), (1, .int u1), (2, .int u2)]) hx hb dX8_stormOf_27 rfl hl (by decide) rfl (fun ls hl => ?_)
    refine lv_iload_n hx hb dX8_stormOf_28 rfl (lv_at hl 3 rfl) ?_
    by_cases c_3 : u2 = (0 : Int32)
    · replace hm := rc_t hm c_3
      refine lv_tableIn (off := 27) (tgt := 56) hx hb dX8_stormOf_29 (by rw [c_3]; decide) (by rw [c_3]; decide) (by rw [c_3]; decide) (by decide) ?_
      refine lv_aload_n hx hb dX8_stormOf_56 rfl (lv_at hl 0 rfl) ?_
      refine rg_5_0 hx hb hts hown hK hW hr_2 tw_1_126 dX8_stormOf_57 ?_
      exact rc_xiret hx hb hr hlocks hW hS (Nat.le_of_ble_eq_true rfl) (Nat.le_of_ble_eq_true rfl) hm dX8_stormOf_60
    · replace hm := rc_f hm c_3
      by_cases c_4 : u2 = (1 : Int32)
      · replace hm := rc_t hm c_4
        refine lv_tableIn (off := 32) (tgt := 61) hx hb dX8_stormOf_29 (by rw [c_4]; decide) (by rw [c_4]; decide) (by rw [c_4]; decide) (by decide) ?_
        refine lv_aload_n hx hb dX8_stormOf_61 rfl (lv_at hl 0 rfl) ?_
        refine rg_5_1 hx hb hts hown hK hW hr_2 tw_1_129 dX8_stormOf_62 ?_
        exact rc_xiret hx hb hr hlocks hW hS (Nat.le_of_ble_eq_true rfl) (Nat.le_of_ble_eq_true rfl) hm dX8_stormOf_65
      · replace hm := rc_f hm c_4
        by_cases c_5 : u2 = (2 : Int32)
        · replace hm := rc_t hm c_5
          refine lv_tableIn (off := 37) (tgt := 66) hx hb dX8_stormOf_29 (by rw [c_5]; decide) (by rw [c_5]; decide) (by rw [c_5]; decide) (by decide) ?_
          refine lv_aload_n hx hb dX8_stormOf_66 rfl (lv_at hl 0 rfl) ?_
          refine rg_5_2 hx hb hts hown hK hW hr_2 tw_1_132 dX8_stormOf_67 ?_
          exact rc_xiret hx hb hr hlocks hW hS (Nat.le_of_ble_eq_true rfl) (Nat.le_of_ble_eq_true rfl) hm dX8_stormOf_70
        · replace hm := rc_f hm c_5
          refine rc_tblD (tgt := 71) hx hb dX8_stormOf_29 [0, 1, 2] (by decide +kernel) (by decide +kernel) (rc_nk c_3 (by decide) (rc_nk c_4 (by decide) (rc_nk c_5 (by decide) rc_nk0))) (by decide) ?_
          exact rc_throw (n := 3) hx hb hl9 hT hE hW hS hts hown rfl (by decide) (by decide) rc_hk_3 rc_hi_3 (rc_hat_3 hts hE) rc_hgd_3 (hl.1.trans hml.symm) dX8_stormOf_71 dX8_stormOf_74 dX8_stormOf_75 dX8_stormOf_78 hout ⟨Nat.le_of_ble_eq_true rfl, Nat.le_of_ble_eq_true rfl, Nat.le_of_ble_eq_true rfl, Nat.le_of_ble_eq_true rfl⟩ hlocks (Nat.le_of_ble_eq_true rfl) (Nat.le_of_ble_eq_true rfl) hm
  · replace hm := rc_t hm c_6
    exact rc_throw (n := 4) hx hb hl9 hT hE hW hS hts hown rfl (by decide) (by decide) rc_hk_4 rc_hi_4 (rc_hat_4 hts hE) rc_hgd_4 (hl.1.trans hml.symm) dX8_stormOf_11 dX8_stormOf_14 dX8_stormOf_15 dX8_stormOf_18 hout ⟨Nat.le_of_ble_eq_true rfl, Nat.le_of_ble_eq_true rfl, Nat.le_of_ble_eq_true rfl, Nat.le_of_ble_eq_true rfl⟩ hlocks (Nat.le_of_ble_eq_true rfl) (Nat.le_of_ble_eq_true rfl) hm
set_option maxHeartbeats 4000000 in
set_option maxRecDepth 100000 in
theorem k_X8_isEven (l : Launch) {Y : rc_Y} {sh : Nat → Nat} {rf : rc_F} (hT : rc_T Y sh rf) (a0 : Nat) (h0 : sh a0 = 9) (sz : Nat) (σ σ' : rc_S) (r : Int32) (hm : f_X8_isEven rf a0 σ = some (r, σ')) : Met l yX8_isEven (Cond.code yX8_isEven cX8_isEven 1 (some .boolean) :: rc_big) ({ frames := 1, cells := 0, slots := 0, locals := 22 } : Room) (rc_P Y sh rf σ sz [.ref a0]) (va_Qi (fun (r' : Int32) (_ : Unit) => r' = r) (fun _ t => rc_W Y sh rf σ' t.heap) (rc_A sh sz)) 0 0 (rc_A sh sz) := by
  refine Met.ofW (cc := cX8_isEven) (maxL := 1) (ret := (some .boolean)) (by decide +kernel) rfl ?_
  intro p e s m args below meth c s₁ B hml hv
  obtain ⟨rfl, hsz, hW, hK, hE⟩ := hv
  have hx := B.exec
  have hb := B.bytes
  have hr := B.returns
  have hts : ∀ w ∈ rc_big, w.before _ s = true := fun w h => atoms_spec (ws := Cond.code yX8_isEven cX8_isEven 1 (some .boolean) :: rc_big) B.pre w (List.mem_cons_of_mem _ h)
  have hown : s.vm.findClass RX8 = some m.cls := findClass_of_methodNamed B.named
  have hlocks := B.notSynchronized
  clear B
  subst hsz
  have hS : va_S (rc_A sh s.heap.size) s.heap s.heap [] := va_S.rf
  have hl := lv_entry ([.ref a0]) (n := 1) (Nat.le_of_ble_eq_true rfl)
  rw [lg_entry_eq]
  generalize (lg_sl ([.ref a0]) ++ List.replicate (1 - (lg_sl ([.ref a0])).length) Slot.unset).toArray = ls at hl ⊢
  have hl : lv_has ls 1 [(0, .ref a0)] := hl
  unfold f_X8_isEven at hm
  refine lv_aload_n hx hb dX8_isEven_0 rfl (lv_at hl 0 rfl) ?_
  refine rg_9_1 hx hb hts hown hK hW h0 tw_2_85 dX8_isEven_1 ?_
  refine rg_2_8 hx hb hts hown hK hW (rc_t_9_1 hT h0) tw_1_164 dX8_isEven_4 ?_
  refine lv_aload_n hx hb dX8_isEven_7 rfl (lv_at hl 0 rfl) ?_
  refine rg_9_1 hx hb hts hown hK hW h0 tw_2_85 dX8_isEven_8 ?_
  refine rg_2_9 hx hb hts hown hK hW (rc_t_9_1 hT h0) tw_1_167 dX8_isEven_11 ?_
  refine lv_iadd hx hb dX8_isEven_14 ?_
  refine lv_aload_n hx hb dX8_isEven_15 rfl (lv_at hl 0 rfl) ?_
  refine rg_9_1 hx hb hts hown hK hW h0 tw_2_85 dX8_isEven_16 ?_
  obtain ⟨w_1, σ_1, hc_1, hm0⟩ := rc_bd_inv hm
  clear hm
  refine rc_ci hS (va_runV (As := []) (rest := [.int ((σ (rf a0 1) 8) + (σ (rf a0 1) 9))]) ⟨hx, hb, hml, hown, hts⟩ (k_X1_litresInBarrels l hT (rf a0 1) (rc_t_9_1 hT h0) s.heap.size _ _ _ hc_1) (cwV 0 hts (rc_gV tw_2_166 tw_2_167 tw_2_168 tw_1_3 tw_2_169) rfl rfl rfl (by decide +kernel) ⟨Nat.le_of_ble_eq_true rfl, Nat.le_of_ble_eq_true rfl⟩) (rc_preV hT hW hK hE hS (rc_t_9_1 hT h0) (by decide) rfl (q := (RX1, TX1, 14)) rfl []) rfl rfl hl.1 rfl (lv_room (Nat.le_of_ble_eq_true rfl)) dX8_isEven_19 ⟨Nat.le_of_ble_eq_true rfl, Nat.le_of_ble_eq_true rfl⟩) (fun H locs hW hS => ?_)
  have hm := hm0
  clear hm0 hc_1
  refine lv_aload_n hx hb dX8_isEven_22 rfl (lv_at hl 0 rfl) ?_
  refine rg_9_1 hx hb hts hown hK hW h0 tw_2_85 dX8_isEven_23 ?_
  refine rg_2_11 hx hb hts hown hK hW (rc_t_9_1 hT h0) tw_1_173 dX8_isEven_26 ?_
  refine lv_iadd hx hb dX8_isEven_29 ?_
  refine lv_aload_n hx hb dX8_isEven_30 rfl (lv_at hl 0 rfl) ?_
  refine rg_9_1 hx hb hts hown hK hW h0 tw_2_85 dX8_isEven_31 ?_
  refine rg_2_12 hx hb hts hown hK hW (rc_t_9_1 hT h0) tw_1_176 dX8_isEven_34 ?_
  refine lv_iadd hx hb dX8_isEven_37 ?_
  refine lv_icmp_ne (tgt := 45) hx hb dX8_isEven_38 (by decide) (fun c_2 => ?_) (fun c_2 => ?_)
  · replace hm := rc_f hm c_2
    refine lv_iconst (v := 0) hx hb dX8_isEven_45 (by decide) ?_
    exact rc_ezret hx hb hr hlocks hW hS (Nat.le_of_ble_eq_true rfl) (Nat.le_of_ble_eq_true rfl) rfl hm dX8_isEven_46
  · replace hm := rc_t hm c_2
    refine lv_iconst (v := 1) hx hb dX8_isEven_41 (by decide) ?_
    refine lv_goto (tgt := 46) hx hb dX8_isEven_42 (by decide) ?_
    exact rc_ezret hx hb hr hlocks hW hS (Nat.le_of_ble_eq_true rfl) (Nat.le_of_ble_eq_true rfl) rfl hm dX8_isEven_46
set_option maxHeartbeats 4000000 in
set_option maxRecDepth 100000 in
theorem k_X8_append (l : Launch) (hl9 : l.stackTraces = false) {Y : rc_Y} {sh : Nat → Nat} {rf : rc_F} (hT : rc_T Y sh rf) (a0 : Nat) (u1 : Int32) (h0 : sh a0 = 9) (sz : Nat) (σ σ' : rc_S) (k : Nat) (r : Int32) (hm : f_X8_append rf a0 u1 σ = some (k, r, σ')) : vx_Met l yX8_append (Cond.code yX8_append cX8_append 2 (some .int) :: rc_big) ({ frames := 6, cells := 1, slots := 6, locals := 81 } : Room) (rc_P Y sh rf σ sz [.ref a0, .int u1]) (va_Qi (fun (r' : Int32) (_ : Unit) => k = 0 ∧ r' = r) (fun _ t => rc_W Y sh rf σ' t.heap) (rc_A sh sz)) (rc_XC Y sh rf σ' k sz) 1 6 (rc_A sh sz) := by
  refine vx_ofW (cc := cX8_append) (maxL := 2) (ret := (some .int)) (by decide +kernel) rfl ?_
  intro p e s m args below meth c s₁ B hml hout hv
  obtain ⟨rfl, hsz, hW, hK, hE⟩ := hv
  have hx := B.exec
  have hb := B.bytes
  have hr := B.returns
  have hts : ∀ w ∈ rc_big, w.before _ s = true := fun w h => atoms_spec (ws := Cond.code yX8_append cX8_append 2 (some .int) :: rc_big) B.pre w (List.mem_cons_of_mem _ h)
  have hown : s.vm.findClass RX8 = some m.cls := findClass_of_methodNamed B.named
  have hlocks := B.notSynchronized
  clear B
  subst hsz
  have hS : va_S (rc_A sh s.heap.size) s.heap s.heap [] := va_S.rf
  have hl := lv_entry ([.ref a0, .int u1]) (n := 2) (Nat.le_of_ble_eq_true rfl)
  rw [lg_entry_eq]
  generalize (lg_sl ([.ref a0, .int u1]) ++ List.replicate (2 - (lg_sl ([.ref a0, .int u1])).length) Slot.unset).toArray = ls at hl ⊢
  have hl : lv_has ls 2 [(0, .ref a0), (1, .int u1)] := hl
  unfold f_X8_append at hm
  refine lv_aload_n hx hb dX8_append_0 rfl (lv_at hl 0 rfl) ?_
  refine rg_9_6 hx hb hts hown hK hW h0 tw_2_90 dX8_append_1 ?_
  refine rg_7_1 hx hb hts hown hK hW (rc_t_9_6 hT h0) tw_2_27 dX8_append_4 ?_
  refine lv_bipush (v := 60) hx hb dX8_append_7 (by decide) ?_
  refine lv_icmp_lt (tgt := 20) hx hb dX8_append_9 (by decide) (fun c_2 => ?_) (fun c_2 => ?_)
  · replace hm := rc_t hm c_2
    refine lv_aload_n hx hb dX8_append_20 rfl (lv_at hl 0 rfl) ?_
    refine rg_9_6 hx hb hts hown hK hW h0 tw_2_90 dX8_append_21 ?_
    refine lv_iload_n hx hb dX8_append_24 rfl (lv_at hl 1 rfl) ?_
    obtain ⟨w_1, σ_1, hc_1, hm0⟩ := rc_bd_inv hm
    clear hm
    refine rc_cv hS (va_runV (As := [.int u1]) (rest := []) ⟨hx, hb, hml, hown, hts⟩ (k_X6_add l hT (rf a0 6) u1 (rc_t_9_6 hT h0) s.heap.size _ _ _ hc_1) (cwV 1 hts (rc_gV tw_6_90 tw_6_91 tw_6_92 tw_1_9 tw_6_93) rfl rfl rfl (by decide +kernel) ⟨Nat.le_of_ble_eq_true rfl, Nat.le_of_ble_eq_true rfl⟩) (rc_preV hT hW hK hE hS (rc_t_9_6 hT h0) (by decide) rfl (q := (RX6, TX6, 7)) rfl [.int u1]) rfl rfl hl.1 rfl (lv_room (Nat.le_of_ble_eq_true rfl)) dX8_append_25 ⟨Nat.le_of_ble_eq_true rfl, Nat.le_of_ble_eq_true rfl⟩) (fun H locs hW hS => ?_)
    have hm := hm0
    clear hm0 hc_1
    refine lv_aload_n hx hb dX8_append_28 rfl (lv_at hl 0 rfl) ?_
    refine rg_9_6 hx hb hts hown hK hW h0 tw_2_90 dX8_append_29 ?_
    refine rg_7_1 hx hb hts hown hK hW (rc_t_9_6 hT h0) tw_2_27 dX8_append_32 ?_
    exact rc_xiret hx hb hr hlocks hW hS (Nat.le_of_ble_eq_true rfl) (Nat.le_of_ble_eq_true rfl) hm dX8_append_35
  · replace hm := rc_f hm c_2
    exact rc_throw (n := 5) hx hb hl9 hT hE hW hS hts hown rfl (by decide) (by decide) rc_hk_5 rc_hi_5 (rc_hat_5 hts hE) rc_hgd_5 (hl.1.trans hml.symm) dX8_append_12 dX8_append_15 dX8_append_16 dX8_append_19 hout ⟨Nat.le_of_ble_eq_true rfl, Nat.le_of_ble_eq_true rfl, Nat.le_of_ble_eq_true rfl, Nat.le_of_ble_eq_true rfl⟩ hlocks (Nat.le_of_ble_eq_true rfl) (Nat.le_of_ble_eq_true rfl) hm
set_option maxHeartbeats 4000000 in
set_option maxRecDepth 100000 in
theorem k_X8_faultPosition (l : Launch) {Y : rc_Y} {sh : Nat → Nat} {rf : rc_F} (hT : rc_T Y sh rf) (a0 : Nat) (h0 : sh a0 = 9) (sz : Nat) (σ σ' : rc_S) (r : Int32) (hm : f_X8_faultPosition rf a0 σ = some (r, σ')) : Met l yX8_faultPosition (Cond.code yX8_faultPosition cX8_faultPosition 1 (some .int) :: rc_big) ({ frames := 0, cells := 0, slots := 0, locals := 0 } : Room) (rc_P Y sh rf σ sz [.ref a0]) (va_Qi (fun (r' : Int32) (_ : Unit) => r' = r) (fun _ t => rc_W Y sh rf σ' t.heap) (rc_A sh sz)) 0 0 (rc_A sh sz) := by
  refine Met.ofW (cc := cX8_faultPosition) (maxL := 1) (ret := (some .int)) (by decide +kernel) rfl ?_
  intro p e s m args below meth c s₁ B hml hv
  obtain ⟨rfl, hsz, hW, hK, hE⟩ := hv
  have hx := B.exec
  have hb := B.bytes
  have hr := B.returns
  have hts : ∀ w ∈ rc_big, w.before _ s = true := fun w h => atoms_spec (ws := Cond.code yX8_faultPosition cX8_faultPosition 1 (some .int) :: rc_big) B.pre w (List.mem_cons_of_mem _ h)
  have hown : s.vm.findClass RX8 = some m.cls := findClass_of_methodNamed B.named
  have hlocks := B.notSynchronized
  clear B
  subst hsz
  have hS : va_S (rc_A sh s.heap.size) s.heap s.heap [] := va_S.rf
  have hl := lv_entry ([.ref a0]) (n := 1) (Nat.le_of_ble_eq_true rfl)
  rw [lg_entry_eq]
  generalize (lg_sl ([.ref a0]) ++ List.replicate (1 - (lg_sl ([.ref a0])).length) Slot.unset).toArray = ls at hl ⊢
  have hl : lv_has ls 1 [(0, .ref a0)] := hl
  unfold f_X8_faultPosition at hm
  refine lv_aload_n hx hb dX8_faultPosition_0 rfl (lv_at hl 0 rfl) ?_
  refine rg_9_7 hx hb hts hown hK hW h0 tw_2_91 dX8_faultPosition_1 ?_
  exact rc_eiret hx hb hr hlocks hW hS (Nat.le_of_ble_eq_true rfl) (Nat.le_of_ble_eq_true rfl) hm dX8_faultPosition_4
