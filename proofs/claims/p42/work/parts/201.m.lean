def f_J5_append_3fe6f (rf : rc_F) (a0 : Nat) (u1 : Int32) (σ : rc_S) : Option (Nat × rc_S) :=
  rc_bd (f_J5_ensureCapacityInternal_d00df rf a0 ((σ a0 3) + (1 : Int32)) σ) fun _ σ_1 =>
  rc_bd (f_J5_isLatin1_aae02 rf a0 σ_1) fun w_2 σ_2 =>
  if w_2 = 0 then
    rc_bd (f_J5_isLatin1_aae02 rf a0 σ_2) fun w_3 σ_3 =>
    if w_3 = 0 then
      none
    else
      none
  else
    rc_bd (f_J1_canEncode_fc78d rf u1 σ_2) fun w_6 σ_6 =>
    if w_6 = 0 then
      rc_bd (f_J5_isLatin1_aae02 rf a0 σ_6) fun w_7 σ_7 =>
      if w_7 = 0 then
        none
      else
        none
    else
      rc_lt (rc_up σ_6 a0 3 ((σ_6 a0 3) + (1 : Int32))) fun σ_10 =>
      rc_ck (rc_in (σ_6 a0 3) 16) <|
      rc_lt (rc_up σ_10 (rf a0 0) (σ_6 a0 3).toNatClampNeg (vp_nar .byte u1.toInt8.toInt32)) fun σ_12 =>
      some (a0, σ_12)
def f_J5_append_c97b9 (rf : rc_F) (a0 : Nat) (u1 : Int32) (σ : rc_S) : Option (Nat × rc_S) :=
  rc_lt (σ a0 3) fun v2_1 =>
  rc_bd (f_J6_stringSize_0f7a4 rf u1 σ) fun w_2 σ_2 =>
  rc_lt (v2_1 + w_2) fun v3_3 =>
  rc_bd (f_J5_ensureCapacityInternal_d00df rf a0 v3_3 σ_2) fun _ σ_4 =>
  rc_bd (f_J5_isLatin1_aae02 rf a0 σ_4) fun w_5 σ_5 =>
  if w_5 = 0 then
    none
  else
    rc_bd (f_J6_getChars_ba4f3 rf u1 v3_3 (rf a0 0) σ_5) fun w_6 σ_6 =>
    rc_lt (rc_up σ_6 a0 3 v3_3) fun σ_7 =>
    some (a0, σ_7)
def f_J4_append_cf468 (rf : rc_F) (a0 : Nat) (u1 : Int32) (σ : rc_S) : Option (Nat × rc_S) :=
  rc_bd (f_J5_append_3fe6f rf a0 u1 σ) fun w_1 σ_1 =>
  some (a0, σ_1)
def f_J4_append_bf812 (rf : rc_F) (a0 : Nat) (u1 : Int32) (σ : rc_S) : Option (Nat × rc_S) :=
  rc_bd (f_J5_append_c97b9 rf a0 u1 σ) fun w_1 σ_1 =>
  some (a0, σ_1)
def f_J4_charAt_5068e (rf : rc_F) (a0 : Nat) (u1 : Int32) (σ : rc_S) : Option (Int32 × rc_S) :=
  rc_bd (f_J5_charAt_5068e rf a0 u1 σ) fun w_1 σ_1 =>
  rc_ck (decide (vp_nar .char w_1 = w_1)) <|
  some (w_1, σ_1)
def f_X0_copyVintage (rf : rc_F) (a0 : Nat) (q1 : Nat) (σ : rc_S) : Option (Unit × rc_S) :=
  rc_lt (rc_up σ a0 3 (σ q1 3)) fun σ_1 =>
  rc_lt (rc_up σ_1 a0 4 (σ_1 q1 4)) fun σ_2 =>
  rc_lt (rc_up σ_2 a0 5 (σ_2 q1 5)) fun σ_3 =>
  some ((), σ_3)
def f_X0_makeEmpty (rf : rc_F) (a0 : Nat) (σ : rc_S) : Option (Unit × rc_S) :=
  rc_lt (rc_up σ a0 1 (0 : Int32)) fun σ_1 =>
  rc_lt (rc_up σ_1 a0 2 (0 : Int32)) fun σ_2 =>
  rc_lt (rc_up σ_2 a0 3 (-1 : Int32)) fun σ_3 =>
  rc_lt (rc_up σ_3 a0 4 (0 : Int32)) fun σ_4 =>
  rc_lt (rc_up σ_4 a0 5 (0 : Int32)) fun σ_5 =>
  some ((), σ_5)
def f_X0_isEmpty (rf : rc_F) (a0 : Nat) (σ : rc_S) : Option (Int32 × rc_S) :=
  if (σ a0 1) = 0 then
    some ((1 : Int32), σ)
  else
    some ((0 : Int32), σ)
def f_X0_isFreeFor (rf : rc_F) (a0 : Nat) (u1 : Int32) (σ : rc_S) : Option (Int32 × rc_S) :=
  rc_bd (f_X0_isEmpty rf a0 σ) fun w_1 σ_1 =>
  if w_1 = 0 then
    if (σ_1 a0 3) = u1 then
      some ((1 : Int32), σ_1)
    else
      some ((0 : Int32), σ_1)
  else
    some ((1 : Int32), σ_1)
def f_X0_room (rf : rc_F) (a0 : Nat) (σ : rc_S) : Option (Int32 × rc_S) :=
  some (((20 : Int32) - (σ a0 1)), σ)
def f_X0_hailPartWith (rf : rc_F) (a0 : Nat) (u1 : Int32) (σ : rc_S) : Option (Int32 × rc_S) :=
  rc_lt ((σ a0 1) + u1) fun v2_1 =>
  if 0 < v2_1 then
    rc_ck (decide (¬ v2_1 = 0)) <|
    some ((((100 : Int32) * ((σ a0 2) + u1)) / v2_1), σ)
  else
    some ((0 : Int32), σ)
def f_X0_ageIn (rf : rc_F) (a0 : Nat) (u1 : Int32) (σ : rc_S) : Option (Int32 × rc_S) :=
  rc_bd (f_X0_isEmpty rf a0 σ) fun w_1 σ_1 =>
  if w_1 = 0 then
    some ((u1 - (σ_1 a0 4)), σ_1)
  else
    some ((0 : Int32), σ_1)
def f_X1_copyCounts (rf : rc_F) (a0 : Nat) (q1 : Nat) (σ : rc_S) : Option (Unit × rc_S) :=
  rc_lt (rc_up σ a0 2 (σ q1 2)) fun σ_1 =>
  rc_lt (rc_up σ_1 a0 5 (σ_1 q1 5)) fun σ_2 =>
  rc_lt (rc_up σ_2 a0 6 (σ_2 q1 6)) fun σ_3 =>
  rc_lt (rc_up σ_3 a0 7 (σ_3 q1 7)) fun σ_4 =>
  rc_lt (rc_up σ_4 a0 8 (σ_4 q1 8)) fun σ_5 =>
  rc_lt (rc_up σ_5 a0 9 (σ_5 q1 9)) fun σ_6 =>
  rc_lt (rc_up σ_6 a0 10 (σ_6 q1 10)) fun σ_7 =>
  rc_lt (rc_up σ_7 a0 11 (σ_7 q1 11)) fun σ_8 =>
  rc_lt (rc_up σ_8 a0 12 (σ_8 q1 12)) fun σ_9 =>
  rc_lt (rc_up σ_9 a0 13 (σ_9 q1 13)) fun σ_10 =>
  some ((), σ_10)
def f_X1_hasBarrel (rf : rc_F) (a0 : Nat) (u1 : Int32) (σ : rc_S) : Option (Int32 × rc_S) :=
  if u1 < 0 then
    some ((0 : Int32), σ)
  else
    if (σ a0 2) ≤ u1 then
      some ((0 : Int32), σ)
    else
      some ((1 : Int32), σ)
def f_X1_addBarrel (rf : rc_F) (a0 : Nat) (u1 : Int32) (σ : rc_S) : Option (Unit × rc_S) :=
  rc_ck (rc_in (σ a0 2) 8) <|
  rc_bd (f_X0_makeEmpty rf (rf (rf a0 1) (σ a0 2).toNatClampNeg) σ) fun _ σ_2 =>
  rc_ck (rc_in (σ_2 a0 2) 8) <|
  rc_lt (rc_up σ_2 (rf (rf a0 1) (σ_2 a0 2).toNatClampNeg) 0 u1) fun σ_4 =>
  rc_lt (rc_up σ_4 a0 2 ((σ_4 a0 2) + (1 : Int32))) fun σ_5 =>
  some ((), σ_5)
def f_X1_barrelsUnder_4 (rf : rc_F) (a0 : Nat) (v1 : Int32) (K : Int32 → Int32 → rc_S → Option (Int32 × rc_S)) : Nat → Int32 → Int32 → rc_S → Option (Int32 × rc_S)
  | 0, _, _, _ => none
  | n + 1, v2, v3, σ =>
    if (σ a0 2) ≤ v3 then
      K v2 v3 σ
    else
      rc_ck (rc_in v3 8) <|
      if (σ (rf (rf a0 1) v3.toNatClampNeg) 0) = v1 then
        rc_lt (v2 + (1 : Int32)) fun v2_4 =>
        rc_lt (v3 + 1) fun v3_5 =>
        f_X1_barrelsUnder_4 rf a0 v1 K n v2_4 v3_5 σ
      else
        rc_lt (v2 + (0 : Int32)) fun v2_2 =>
        rc_lt (v3 + 1) fun v3_3 =>
        f_X1_barrelsUnder_4 rf a0 v1 K n v2_2 v3_3 σ
def f_X1_barrelsUnder (rf : rc_F) (a0 : Nat) (u1 : Int32) (σ : rc_S) : Option (Int32 × rc_S) :=
  f_X1_barrelsUnder_4 rf a0 u1 (fun v2_8 v3_9 σ_10 =>
    some (v2_8, σ_10)
  ) rc_fu (0 : Int32) (0 : Int32) σ
def f_X1_emptyUnder_4 (rf : rc_F) (a0 : Nat) (v1 : Int32) (K : Int32 → Int32 → rc_S → Option (Int32 × rc_S)) : Nat → Int32 → Int32 → rc_S → Option (Int32 × rc_S)
  | 0, _, _, _ => none
  | n + 1, v2, v3, σ =>
    if (σ a0 2) ≤ v3 then
      K v2 v3 σ
    else
      rc_ck (rc_in v3 8) <|
      if (σ (rf (rf a0 1) v3.toNatClampNeg) 0) = v1 then
        rc_ck (rc_in v3 8) <|
        rc_bd (f_X0_isEmpty rf (rf (rf a0 1) v3.toNatClampNeg) σ) fun w_5 σ_5 =>
        if w_5 = 0 then
          rc_lt (v2 + (0 : Int32)) fun v2_6 =>
          rc_lt (v3 + 1) fun v3_7 =>
          f_X1_emptyUnder_4 rf a0 v1 K n v2_6 v3_7 σ_5
        else
          rc_lt (v2 + (1 : Int32)) fun v2_8 =>
          rc_lt (v3 + 1) fun v3_9 =>
          f_X1_emptyUnder_4 rf a0 v1 K n v2_8 v3_9 σ_5
      else
        rc_lt (v2 + (0 : Int32)) fun v2_2 =>
        rc_lt (v3 + 1) fun v3_3 =>
        f_X1_emptyUnder_4 rf a0 v1 K n v2_2 v3_3 σ
def f_X1_emptyUnder (rf : rc_F) (a0 : Nat) (u1 : Int32) (σ : rc_S) : Option (Int32 × rc_S) :=
  f_X1_emptyUnder_4 rf a0 u1 (fun v2_13 v3_14 σ_15 =>
    some (v2_13, σ_15)
  ) rc_fu (0 : Int32) (0 : Int32) σ
def f_X1_litresUnder_4 (rf : rc_F) (a0 : Nat) (v1 : Int32) (K : Int32 → Int32 → rc_S → Option (Int32 × rc_S)) : Nat → Int32 → Int32 → rc_S → Option (Int32 × rc_S)
  | 0, _, _, _ => none
  | n + 1, v2, v3, σ =>
    if (σ a0 2) ≤ v3 then
      K v2 v3 σ
    else
      rc_ck (rc_in v3 8) <|
      if (σ (rf (rf a0 1) v3.toNatClampNeg) 0) = v1 then
        rc_ck (rc_in v3 8) <|
        rc_lt (v2 + (σ (rf (rf a0 1) v3.toNatClampNeg) 1)) fun v2_5 =>
        rc_lt (v3 + 1) fun v3_6 =>
        f_X1_litresUnder_4 rf a0 v1 K n v2_5 v3_6 σ
      else
        rc_lt (v2 + (0 : Int32)) fun v2_2 =>
        rc_lt (v3 + 1) fun v3_3 =>
        f_X1_litresUnder_4 rf a0 v1 K n v2_2 v3_3 σ
def f_X1_litresUnder (rf : rc_F) (a0 : Nat) (u1 : Int32) (σ : rc_S) : Option (Int32 × rc_S) :=
  f_X1_litresUnder_4 rf a0 u1 (fun v2_9 v3_10 σ_11 =>
    some (v2_9, σ_11)
  ) rc_fu (0 : Int32) (0 : Int32) σ
def f_X1_litresInBarrels_4 (rf : rc_F) (a0 : Nat) (K : Int32 → Int32 → rc_S → Option (Int32 × rc_S)) : Nat → Int32 → Int32 → rc_S → Option (Int32 × rc_S)
  | 0, _, _, _ => none
  | n + 1, v1, v2, σ =>
    if (σ a0 2) ≤ v2 then
      K v1 v2 σ
    else
      rc_ck (rc_in v2 8) <|
      rc_lt (v1 + (σ (rf (rf a0 1) v2.toNatClampNeg) 1)) fun v1_2 =>
      rc_lt (v2 + 1) fun v2_3 =>
      f_X1_litresInBarrels_4 rf a0 K n v1_2 v2_3 σ
def f_X1_litresInBarrels (rf : rc_F) (a0 : Nat) (σ : rc_S) : Option (Int32 × rc_S) :=
  f_X1_litresInBarrels_4 rf a0 (fun v1_5 v2_6 σ_7 =>
    some (v1_5, σ_7)
  ) rc_fu (0 : Int32) (0 : Int32) σ
def f_X1_hailInBarrels_4 (rf : rc_F) (a0 : Nat) (K : Int32 → Int32 → rc_S → Option (Int32 × rc_S)) : Nat → Int32 → Int32 → rc_S → Option (Int32 × rc_S)
  | 0, _, _, _ => none
  | n + 1, v1, v2, σ =>
    if (σ a0 2) ≤ v2 then
      K v1 v2 σ
    else
      rc_ck (rc_in v2 8) <|
      rc_lt (v1 + (σ (rf (rf a0 1) v2.toNatClampNeg) 2)) fun v1_2 =>
      rc_lt (v2 + 1) fun v2_3 =>
      f_X1_hailInBarrels_4 rf a0 K n v1_2 v2_3 σ
def f_X1_hailInBarrels (rf : rc_F) (a0 : Nat) (σ : rc_S) : Option (Int32 × rc_S) :=
  f_X1_hailInBarrels_4 rf a0 (fun v1_5 v2_6 σ_7 =>
    some (v1_5, σ_7)
  ) rc_fu (0 : Int32) (0 : Int32) σ
def f_X1_litresOfStorm_4 (rf : rc_F) (a0 : Nat) (v1 : Int32) (K : Int32 → Int32 → rc_S → Option (Int32 × rc_S)) : Nat → Int32 → Int32 → rc_S → Option (Int32 × rc_S)
  | 0, _, _, _ => none
  | n + 1, v2, v3, σ =>
    if (σ a0 2) ≤ v3 then
      K v2 v3 σ
    else
      rc_ck (rc_in v3 8) <|
      if (σ (rf (rf a0 1) v3.toNatClampNeg) 3) = v1 then
        rc_ck (rc_in v3 8) <|
        rc_lt (v2 + (σ (rf (rf a0 1) v3.toNatClampNeg) 1)) fun v2_5 =>
        rc_lt (v3 + 1) fun v3_6 =>
        f_X1_litresOfStorm_4 rf a0 v1 K n v2_5 v3_6 σ
      else
        rc_lt (v2 + (0 : Int32)) fun v2_2 =>
        rc_lt (v3 + 1) fun v3_3 =>
        f_X1_litresOfStorm_4 rf a0 v1 K n v2_2 v3_3 σ
def f_X1_litresOfStorm (rf : rc_F) (a0 : Nat) (u1 : Int32) (σ : rc_S) : Option (Int32 × rc_S) :=
  f_X1_litresOfStorm_4 rf a0 u1 (fun v2_9 v3_10 σ_11 =>
    some (v2_9, σ_11)
  ) rc_fu (0 : Int32) (0 : Int32) σ
def f_X1_mostHailFor (rf : rc_F) (a0 : Nat) (q1 : Nat) (σ : rc_S) : Option (Int32 × rc_S) :=
  rc_bd (f_X0_room rf q1 σ) fun w_1 σ_1 =>
  some ((if (σ_1 a0 6) < w_1 then (σ_1 a0 6) else w_1), σ_1)
def f_X1_isLateStorm (rf : rc_F) (a0 : Nat) (u1 : Int32) (σ : rc_S) : Option (Int32 × rc_S) :=
  if u1 < 0 then
    some ((0 : Int32), σ)
  else
    if (σ a0 5) ≤ u1 then
      some ((0 : Int32), σ)
    else
      if u1 < ((σ a0 5) - (12 : Int32)) then
        some ((0 : Int32), σ)
      else
        some ((1 : Int32), σ)
set_option maxHeartbeats 4000000 in
set_option maxRecDepth 100000 in
theorem k_J5_append_3fe6f (l : Launch) {Y : rc_Y} {sh : Nat → Nat} {rf : rc_F} (hT : rc_T Y sh rf) (a0 : Nat) (u1 : Int32) (h0 : sh a0 = 11) (sz : Nat) (σ σ' : rc_S) (r : Nat) (hm : f_J5_append_3fe6f rf a0 u1 σ = some (r, σ')) : Met l yJ5_append_3fe6f (Cond.code yJ5_append_3fe6f cJ5_append_3fe6f 2 (some (.object "java/lang/AbstractStringBuilder")) :: rc_big) ({ frames := 1, cells := 0, slots := 0, locals := 22 } : Room) (rc_P Y sh rf σ sz [.ref a0, .int u1]) (va_Qr (fun (_ : Unit) => True) (fun _ a t => (a = r ∧ sh a = 11) ∧ rc_W Y sh rf σ' t.heap) (rc_A sh sz)) 0 0 (rc_A sh sz) := by
  refine rc_ofWF (cc := cJ5_append_3fe6f) (maxL := 2) (ret := (some (.object "java/lang/AbstractStringBuilder"))) (by decide +kernel) rfl ?_
  intro p e s m args below meth c s₁ B hml hv
  obtain ⟨rfl, hsz, hW, hK, hE⟩ := hv
  have hx := B.exec
  have hb := B.bytes
  have hr := B.returns
  have hts : ∀ w ∈ rc_big, w.before _ s = true := fun w h => atoms_spec (ws := Cond.code yJ5_append_3fe6f cJ5_append_3fe6f 2 (some (.object "java/lang/AbstractStringBuilder")) :: rc_big) B.pre w (List.mem_cons_of_mem _ h)
  have hown : s.vm.findClass RJ5 = some m.cls := findClass_of_methodNamed B.named
  have hlocks := B.notSynchronized
  clear B
  subst hsz
  have hS : va_S (rc_A sh s.heap.size) s.heap s.heap [] := va_S.rf
  have hl := lv_entry ([.ref a0, .int u1]) (n := 2) (Nat.le_of_ble_eq_true rfl)
  rw [lg_entry_eq]
  generalize (lg_sl ([.ref a0, .int u1]) ++ List.replicate (2 - (lg_sl ([.ref a0, .int u1])).length) Slot.unset).toArray = ls at hl ⊢
  have hl : lv_has ls 2 [(0, .ref a0), (1, .int u1)] := hl
  unfold f_J5_append_3fe6f at hm
  refine lv_aload_n hx hb dJ5_append_3fe6f_0 rfl (lv_at hl 0 rfl) ?_
  refine lv_aload_n hx hb dJ5_append_3fe6f_1 rfl (lv_at hl 0 rfl) ?_
  refine rg_11_3 hx hb hts hown hK hW h0 tw_2_71 dJ5_append_3fe6f_2 ?_
  refine lv_iconst (v := 1) hx hb dJ5_append_3fe6f_5 (by decide) ?_
  refine lv_iadd hx hb dJ5_append_3fe6f_6 ?_
  obtain ⟨w_1, σ_1, hc_1, hm0⟩ := rc_bd_inv hm
  clear hm
  refine rc_cv hS (va_runU (As := [.int ((σ a0 3) + (1 : Int32))]) (rest := []) ⟨hx, hb, hml, hown, hts⟩ (k_J5_ensureCapacityInternal_d00df l hT a0 ((σ a0 3) + (1 : Int32)) h0 s.heap.size _ _ _ hc_1) (va_cwU (owner := "java/lang/AbstractStringBuilder") 1 hts (rc_gU tw_4_149 tw_7_101 rc_xsel tw_4_151 tw_1_10 tw_4_152) rfl rfl rfl rfl (by decide +kernel) ⟨Nat.le_of_ble_eq_true rfl, Nat.le_of_ble_eq_true rfl⟩) (rc_preV hT hW hK hE hS h0 (by decide) rfl (q := (RJ4, TJ4, 4)) rfl [.int ((σ a0 3) + (1 : Int32))]) rfl rfl hl.1 rfl (lv_room (Nat.le_of_ble_eq_true rfl)) dJ5_append_3fe6f_7 ⟨Nat.le_of_ble_eq_true rfl, Nat.le_of_ble_eq_true rfl⟩) (fun H locs hW hS => ?_)
  have hm := hm0
  clear hm0 hc_1
  refine lv_aload_n hx hb dJ5_append_3fe6f_10 rfl (lv_at hl 0 rfl) ?_
  obtain ⟨w_2, σ_2, hc_2, hm0⟩ := rc_bd_inv hm
  clear hm
  refine rc_ci hS (va_runU (As := []) (rest := []) ⟨hx, hb, hml, hown, hts⟩ (k_J5_isLatin1_aae02 l hT a0 h0 H.size _ _ _ hc_2) (va_cwU (owner := "java/lang/AbstractStringBuilder") 0 hts (rc_gU tw_4_180 tw_4_182 tw_4_183 tw_4_181 tw_1_10 tw_4_184) rfl rfl rfl rfl (by decide +kernel) ⟨Nat.le_of_ble_eq_true rfl, Nat.le_of_ble_eq_true rfl⟩) (rc_preV hT hW hK hE hS h0 (by decide) rfl (q := (RJ4, TJ4, 4)) rfl []) rfl rfl hl.1 rfl (lv_room (Nat.le_of_ble_eq_true rfl)) dJ5_append_3fe6f_11 ⟨Nat.le_of_ble_eq_true rfl, Nat.le_of_ble_eq_true rfl⟩) (fun H locs hW hS => ?_)
  have hm := hm0
  clear hm0 hc_2
  refine lv_if_eq (tgt := 45) hx hb dJ5_append_3fe6f_14 (by decide) (fun c_14 => ?_) (fun c_14 => ?_)
  · replace hm := rc_t hm c_14
    refine lv_aload_n hx hb dJ5_append_3fe6f_45 rfl (lv_at hl 0 rfl) ?_
    obtain ⟨w_3, σ_3, hc_3, hm0⟩ := rc_bd_inv hm
    clear hm
    refine rc_ci hS (va_runU (As := []) (rest := []) ⟨hx, hb, hml, hown, hts⟩ (k_J5_isLatin1_aae02 l hT a0 h0 H.size _ _ _ hc_3) (va_cwU (owner := "java/lang/AbstractStringBuilder") 0 hts (rc_gU tw_4_180 tw_4_182 tw_4_183 tw_4_181 tw_1_10 tw_4_184) rfl rfl rfl rfl (by decide +kernel) ⟨Nat.le_of_ble_eq_true rfl, Nat.le_of_ble_eq_true rfl⟩) (rc_preV hT hW hK hE hS h0 (by decide) rfl (q := (RJ4, TJ4, 4)) rfl []) rfl rfl hl.1 rfl (lv_room (Nat.le_of_ble_eq_true rfl)) dJ5_append_3fe6f_46 ⟨Nat.le_of_ble_eq_true rfl, Nat.le_of_ble_eq_true rfl⟩) (fun H locs hW hS => ?_)
    have hm := hm0
    clear hm0 hc_3
    refine lv_if_eq (tgt := 56) hx hb dJ5_append_3fe6f_49 (by decide) (fun c_5 => ?_) (fun c_5 => ?_)
    · replace hm := rc_t hm c_5
      cases hm
    · replace hm := rc_f hm c_5
      cases hm
  · replace hm := rc_f hm c_14
    refine lv_iload_n hx hb dJ5_append_3fe6f_17 rfl (lv_at hl 1 rfl) ?_
    obtain ⟨w_6, σ_6, hc_6, hm0⟩ := rc_bd_inv hm
    clear hm
    refine rc_ci hS (va_runS (As := [.int u1]) (rest := []) ⟨hx, hb, hml, hown, hts⟩ (k_J1_canEncode_fc78d l hT u1  H.size _ _ _ hc_6) (va_cwS 1 hts (rc_gS tw_6_116 tw_6_117 tw_1_26 tw_6_118) rfl rfl rfl (by decide +kernel) ⟨Nat.le_of_ble_eq_true rfl, Nat.le_of_ble_eq_true rfl⟩) (rc_preS hT hW hK hE hS [.int u1]) rfl rfl hl.1 rfl (lv_room (Nat.le_of_ble_eq_true rfl)) dJ5_append_3fe6f_18 ⟨Nat.le_of_ble_eq_true rfl, Nat.le_of_ble_eq_true rfl⟩) (fun H locs hW hS => ?_)
    have hm := hm0
    clear hm0 hc_6
    refine lv_if_eq (tgt := 45) hx hb dJ5_append_3fe6f_21 (by decide) (fun c_13 => ?_) (fun c_13 => ?_)
    · replace hm := rc_t hm c_13
      refine lv_aload_n hx hb dJ5_append_3fe6f_45 rfl (lv_at hl 0 rfl) ?_
      obtain ⟨w_7, σ_7, hc_7, hm0⟩ := rc_bd_inv hm
      clear hm
      refine rc_ci hS (va_runU (As := []) (rest := []) ⟨hx, hb, hml, hown, hts⟩ (k_J5_isLatin1_aae02 l hT a0 h0 H.size _ _ _ hc_7) (va_cwU (owner := "java/lang/AbstractStringBuilder") 0 hts (rc_gU tw_4_180 tw_4_182 tw_4_183 tw_4_181 tw_1_10 tw_4_184) rfl rfl rfl rfl (by decide +kernel) ⟨Nat.le_of_ble_eq_true rfl, Nat.le_of_ble_eq_true rfl⟩) (rc_preV hT hW hK hE hS h0 (by decide) rfl (q := (RJ4, TJ4, 4)) rfl []) rfl rfl hl.1 rfl (lv_room (Nat.le_of_ble_eq_true rfl)) dJ5_append_3fe6f_46 ⟨Nat.le_of_ble_eq_true rfl, Nat.le_of_ble_eq_true rfl⟩) (fun H locs hW hS => ?_)
      have hm := hm0
      clear hm0 hc_7
      refine lv_if_eq (tgt := 56) hx hb dJ5_append_3fe6f_49 (by decide) (fun c_9 => ?_) (fun c_9 => ?_)
      · replace hm := rc_t hm c_9
        cases hm
      · replace hm := rc_f hm c_9
        cases hm
    · replace hm := rc_f hm c_13
      refine lv_aload_n hx hb dJ5_append_3fe6f_24 rfl (lv_at hl 0 rfl) ?_
      refine rg_11_0 hx hb hts hown hK hW h0 tw_2_67 dJ5_append_3fe6f_25 ?_
      refine lv_aload_n hx hb dJ5_append_3fe6f_28 rfl (lv_at hl 0 rfl) ?_
      refine lv_dup hx hb dJ5_append_3fe6f_29 rfl ?_
      refine rg_11_3 hx hb hts hown hK hW h0 tw_2_71 dJ5_append_3fe6f_30 ?_
      refine lv_dup_x1 hx hb dJ5_append_3fe6f_33 rfl rfl ?_
      refine lv_iconst (v := 1) hx hb dJ5_append_3fe6f_34 (by decide) ?_
      refine lv_iadd hx hb dJ5_append_3fe6f_35 ?_
      refine rp_11_3 hx hb hts hown hK hW hS h0 tw_2_71 dJ5_append_3fe6f_36 (fun σ_10 H locs eσ hW hS => ?_)
      replace hm := rc_lt_at hm eσ
      clear eσ
      refine lv_iload_n hx hb dJ5_append_3fe6f_39 rfl (lv_at hl 1 rfl) ?_
      refine lv_i2b (v := u1.toInt8.toInt32) hx hb dJ5_append_3fe6f_40 rfl ?_
      have hi_11 := (rc_ix hm).1
      replace hm := (rc_ix hm).2
      refine rc_bastj (j := (σ_6 a0 3).toNatClampNeg) hx hb hK hW hS (rc_t_11_0 hT h0) (by decide) (fun _ => rfl) hi_11 rfl dJ5_append_3fe6f_41 (fun σ_12 H locs eσ hW hS => ?_)
      replace hm := rc_lt_at hm eσ
      clear eσ
      refine lv_goto (tgt := 75) hx hb dJ5_append_3fe6f_42 (by decide) ?_
      refine lv_aload_n hx hb dJ5_append_3fe6f_75 rfl (lv_at hl 0 rfl) ?_
      exact rc_earet hx hb hr hlocks hW hS (Nat.le_of_ble_eq_true rfl) (Nat.le_of_ble_eq_true rfl) h0 hm dJ5_append_3fe6f_76
set_option maxHeartbeats 4000000 in
set_option maxRecDepth 100000 in
theorem k_J5_append_c97b9 (l : Launch) {Y : rc_Y} {sh : Nat → Nat} {rf : rc_F} (hT : rc_T Y sh rf) (a0 : Nat) (u1 : Int32) (h0 : sh a0 = 11) (sz : Nat) (σ σ' : rc_S) (r : Nat) (hm : f_J5_append_c97b9 rf a0 u1 σ = some (r, σ')) : Met l yJ5_append_c97b9 (Cond.code yJ5_append_c97b9 cJ5_append_c97b9 4 (some (.object "java/lang/AbstractStringBuilder")) :: rc_big) ({ frames := 1, cells := 0, slots := 0, locals := 26 } : Room) (rc_P Y sh rf σ sz [.ref a0, .int u1]) (va_Qr (fun (_ : Unit) => True) (fun _ a t => (a = r ∧ sh a = 11) ∧ rc_W Y sh rf σ' t.heap) (rc_A sh sz)) 0 0 (rc_A sh sz) := by
  refine rc_ofWF (cc := cJ5_append_c97b9) (maxL := 4) (ret := (some (.object "java/lang/AbstractStringBuilder"))) (by decide +kernel) rfl ?_
  intro p e s m args below meth c s₁ B hml hv
  obtain ⟨rfl, hsz, hW, hK, hE⟩ := hv
  have hx := B.exec
  have hb := B.bytes
  have hr := B.returns
  have hts : ∀ w ∈ rc_big, w.before _ s = true := fun w h => atoms_spec (ws := Cond.code yJ5_append_c97b9 cJ5_append_c97b9 4 (some (.object "java/lang/AbstractStringBuilder")) :: rc_big) B.pre w (List.mem_cons_of_mem _ h)
  have hown : s.vm.findClass RJ5 = some m.cls := findClass_of_methodNamed B.named
  have hlocks := B.notSynchronized
  clear B
  subst hsz
  have hS : va_S (rc_A sh s.heap.size) s.heap s.heap [] := va_S.rf
  have hl := lv_entry ([.ref a0, .int u1]) (n := 4) (Nat.le_of_ble_eq_true rfl)
  rw [lg_entry_eq]
  generalize (lg_sl ([.ref a0, .int u1]) ++ List.replicate (4 - (lg_sl ([.ref a0, .int u1])).length) Slot.unset).toArray = ls at hl ⊢
  have hl : lv_has ls 4 [(0, .ref a0), (1, .int u1)] := hl
  unfold f_J5_append_c97b9 at hm
  refine lv_aload_n hx hb dJ5_append_c97b9_0 rfl (lv_at hl 0 rfl) ?_
  refine rg_11_3 hx hb hts hown hK hW h0 tw_2_71 dJ5_append_c97b9_1 ?_
  refine lv_topi (fun v2_1 ev => ?_)
  replace hm := rc_lt_at hm ev
  clear ev
  refine lv_istore_n (lv' := [(2, .int v2_1), (0, .ref a0), (1, .int u1)]) hx hb dJ5_append_c97b9_4 rfl hl (by decide) rfl (fun ls hl => ?_)
  refine lv_iload_n hx hb dJ5_append_c97b9_5 rfl (lv_at hl 0 rfl) ?_
  refine lv_iload_n hx hb dJ5_append_c97b9_6 rfl (lv_at hl 2 rfl) ?_
  obtain ⟨w_2, σ_2, hc_2, hm0⟩ := rc_bd_inv hm
  clear hm
  refine rc_ci hS (va_runS (As := [.int u1]) (rest := [.int v2_1]) ⟨hx, hb, hml, hown, hts⟩ (k_J6_stringSize_0f7a4 l hT u1  s.heap.size _ _ _ hc_2) (va_cwS 1 hts (rc_gS tw_5_22 tw_5_23 tw_1_28 tw_5_24) rfl rfl rfl (by decide +kernel) ⟨Nat.le_of_ble_eq_true rfl, Nat.le_of_ble_eq_true rfl⟩) (rc_preS hT hW hK hE hS [.int u1]) rfl rfl hl.1 rfl (lv_room (Nat.le_of_ble_eq_true rfl)) dJ5_append_c97b9_7 ⟨Nat.le_of_ble_eq_true rfl, Nat.le_of_ble_eq_true rfl⟩) (fun H locs hW hS => ?_)
  have hm := hm0
  clear hm0 hc_2
  refine lv_iadd hx hb dJ5_append_c97b9_10 ?_
  refine lv_topi (fun v3_3 ev => ?_)
  replace hm := rc_lt_at hm ev
  clear ev
  refine lv_istore_n (lv' := [(3, .int v3_3), (2, .int v2_1), (0, .ref a0), (1, .int u1)]) hx hb dJ5_append_c97b9_11 rfl hl (by decide) rfl (fun ls hl => ?_)
  refine lv_aload_n hx hb dJ5_append_c97b9_12 rfl (lv_at hl 2 rfl) ?_
  refine lv_iload_n hx hb dJ5_append_c97b9_13 rfl (lv_at hl 0 rfl) ?_
  obtain ⟨w_4, σ_4, hc_4, hm0⟩ := rc_bd_inv hm
  clear hm
  refine rc_cv hS (va_runU (As := [.int v3_3]) (rest := []) ⟨hx, hb, hml, hown, hts⟩ (k_J5_ensureCapacityInternal_d00df l hT a0 v3_3 h0 H.size _ _ _ hc_4) (va_cwU (owner := "java/lang/AbstractStringBuilder") 1 hts (rc_gU tw_4_149 tw_7_101 rc_xsel tw_4_151 tw_1_10 tw_4_152) rfl rfl rfl rfl (by decide +kernel) ⟨Nat.le_of_ble_eq_true rfl, Nat.le_of_ble_eq_true rfl⟩) (rc_preV hT hW hK hE hS h0 (by decide) rfl (q := (RJ4, TJ4, 4)) rfl [.int v3_3]) rfl rfl hl.1 rfl (lv_room (Nat.le_of_ble_eq_true rfl)) dJ5_append_c97b9_14 ⟨Nat.le_of_ble_eq_true rfl, Nat.le_of_ble_eq_true rfl⟩) (fun H locs hW hS => ?_)
  have hm := hm0
  clear hm0 hc_4
  refine lv_aload_n hx hb dJ5_append_c97b9_17 rfl (lv_at hl 2 rfl) ?_
  obtain ⟨w_5, σ_5, hc_5, hm0⟩ := rc_bd_inv hm
  clear hm
  refine rc_ci hS (va_runU (As := []) (rest := []) ⟨hx, hb, hml, hown, hts⟩ (k_J5_isLatin1_aae02 l hT a0 h0 H.size _ _ _ hc_5) (va_cwU (owner := "java/lang/AbstractStringBuilder") 0 hts (rc_gU tw_4_180 tw_4_182 tw_4_183 tw_4_181 tw_1_10 tw_4_184) rfl rfl rfl rfl (by decide +kernel) ⟨Nat.le_of_ble_eq_true rfl, Nat.le_of_ble_eq_true rfl⟩) (rc_preV hT hW hK hE hS h0 (by decide) rfl (q := (RJ4, TJ4, 4)) rfl []) rfl rfl hl.1 rfl (lv_room (Nat.le_of_ble_eq_true rfl)) dJ5_append_c97b9_18 ⟨Nat.le_of_ble_eq_true rfl, Nat.le_of_ble_eq_true rfl⟩) (fun H locs hW hS => ?_)
  have hm := hm0
  clear hm0 hc_5
  refine lv_if_eq (tgt := 37) hx hb dJ5_append_c97b9_21 (by decide) (fun c_8 => ?_) (fun c_8 => ?_)
  · replace hm := rc_t hm c_8
    cases hm
  · replace hm := rc_f hm c_8
    refine lv_iload_n hx hb dJ5_append_c97b9_24 rfl (lv_at hl 3 rfl) ?_
    refine lv_iload_n hx hb dJ5_append_c97b9_25 rfl (lv_at hl 0 rfl) ?_
    refine lv_aload_n hx hb dJ5_append_c97b9_26 rfl (lv_at hl 2 rfl) ?_
    refine rg_11_0 hx hb hts hown hK hW h0 tw_2_67 dJ5_append_c97b9_27 ?_
    obtain ⟨w_6, σ_6, hc_6, hm0⟩ := rc_bd_inv hm
    clear hm
    refine rc_ci hS (va_runS (As := [.int u1, .int v3_3, .ref (rf a0 0)]) (rest := []) ⟨hx, hb, hml, hown, hts⟩ (k_J6_getChars_ba4f3 l hT u1 v3_3 (rf a0 0) (rc_t_11_0 hT h0) H.size _ _ _ hc_6) (va_cwS 3 hts (rc_gS tw_5_25 tw_5_26 tw_1_28 tw_5_27) rfl rfl rfl (by decide +kernel) ⟨Nat.le_of_ble_eq_true rfl, Nat.le_of_ble_eq_true rfl⟩) (rc_preS hT hW hK hE hS [.int u1, .int v3_3, .ref (rf a0 0)]) rfl rfl hl.1 rfl (lv_room (Nat.le_of_ble_eq_true rfl)) dJ5_append_c97b9_30 ⟨Nat.le_of_ble_eq_true rfl, Nat.le_of_ble_eq_true rfl⟩) (fun H locs hW hS => ?_)
    have hm := hm0
    clear hm0 hc_6
    refine lv_pop hx hb dJ5_append_c97b9_33 rfl ?_
    refine lv_goto (tgt := 48) hx hb dJ5_append_c97b9_34 (by decide) ?_
    refine lv_aload_n hx hb dJ5_append_c97b9_48 rfl (lv_at hl 2 rfl) ?_
    refine lv_iload_n hx hb dJ5_append_c97b9_49 rfl (lv_at hl 0 rfl) ?_
    refine rp_11_3 hx hb hts hown hK hW hS h0 tw_2_71 dJ5_append_c97b9_50 (fun σ_7 H locs eσ hW hS => ?_)
    replace hm := rc_lt_at hm eσ
    clear eσ
    refine lv_aload_n hx hb dJ5_append_c97b9_53 rfl (lv_at hl 2 rfl) ?_
    exact rc_earet hx hb hr hlocks hW hS (Nat.le_of_ble_eq_true rfl) (Nat.le_of_ble_eq_true rfl) h0 hm dJ5_append_c97b9_54
set_option maxHeartbeats 4000000 in
set_option maxRecDepth 100000 in
theorem k_J4_append_cf468 (l : Launch) {Y : rc_Y} {sh : Nat → Nat} {rf : rc_F} (hT : rc_T Y sh rf) (a0 : Nat) (u1 : Int32) (h0 : sh a0 = 11) (sz : Nat) (σ σ' : rc_S) (r : Nat) (hm : f_J4_append_cf468 rf a0 u1 σ = some (r, σ')) : Met l yJ4_append_cf468 (Cond.code yJ4_append_cf468 cJ4_append_cf468 2 (some (.object "java/lang/StringBuilder")) :: rc_big) ({ frames := 2, cells := 0, slots := 0, locals := 43 } : Room) (rc_P Y sh rf σ sz [.ref a0, .int u1]) (va_Qr (fun (_ : Unit) => True) (fun _ a t => (a = r ∧ sh a = 11) ∧ rc_W Y sh rf σ' t.heap) (rc_A sh sz)) 0 0 (rc_A sh sz) := by
  refine rc_ofWF (cc := cJ4_append_cf468) (maxL := 2) (ret := (some (.object "java/lang/StringBuilder"))) (by decide +kernel) rfl ?_
  intro p e s m args below meth c s₁ B hml hv
  obtain ⟨rfl, hsz, hW, hK, hE⟩ := hv
  have hx := B.exec
  have hb := B.bytes
  have hr := B.returns
  have hts : ∀ w ∈ rc_big, w.before _ s = true := fun w h => atoms_spec (ws := Cond.code yJ4_append_cf468 cJ4_append_cf468 2 (some (.object "java/lang/StringBuilder")) :: rc_big) B.pre w (List.mem_cons_of_mem _ h)
  have hown : s.vm.findClass RJ4 = some m.cls := findClass_of_methodNamed B.named
  have hlocks := B.notSynchronized
  clear B
  subst hsz
  have hS : va_S (rc_A sh s.heap.size) s.heap s.heap [] := va_S.rf
  have hl := lv_entry ([.ref a0, .int u1]) (n := 2) (Nat.le_of_ble_eq_true rfl)
  rw [lg_entry_eq]
  generalize (lg_sl ([.ref a0, .int u1]) ++ List.replicate (2 - (lg_sl ([.ref a0, .int u1])).length) Slot.unset).toArray = ls at hl ⊢
  have hl : lv_has ls 2 [(0, .ref a0), (1, .int u1)] := hl
  unfold f_J4_append_cf468 at hm
  refine lv_aload_n hx hb dJ4_append_cf468_0 rfl (lv_at hl 0 rfl) ?_
  refine lv_iload_n hx hb dJ4_append_cf468_1 rfl (lv_at hl 1 rfl) ?_
  obtain ⟨w_1, σ_1, hc_1, hm0⟩ := rc_bd_inv hm
  clear hm
  refine rc_cr hS (va_runSU (hK.1 1 _ rfl).2 (As := [.int u1]) (rest := []) ⟨hx, hb, hml, hown, hts⟩ (k_J5_append_3fe6f l hT a0 u1 h0 s.heap.size _ _ _ hc_1) (va_cwSU 1 hts (rc_gSU tw_6_113 tw_7_108 tw_2_80 tw_6_114 tw_1_10 tw_6_115) rfl rfl rfl (by decide +kernel) ⟨Nat.le_of_ble_eq_true rfl, Nat.le_of_ble_eq_true rfl⟩) (rc_preV hT hW hK hE hS h0 (by decide) rfl (q := (RJ4, TJ4, 4)) rfl [.int u1]) rfl rfl hl.1 rfl (lv_room (Nat.le_of_ble_eq_true rfl)) dJ4_append_cf468_2 ⟨Nat.le_of_ble_eq_true rfl, Nat.le_of_ble_eq_true rfl⟩) (fun H locs hr_1 hW hS => ?_)
  have hm := hm0
  clear hm0 hc_1
  refine lv_pop hx hb dJ4_append_cf468_5 rfl ?_
  refine lv_aload_n hx hb dJ4_append_cf468_6 rfl (lv_at hl 0 rfl) ?_
  exact rc_earet hx hb hr hlocks hW hS (Nat.le_of_ble_eq_true rfl) (Nat.le_of_ble_eq_true rfl) h0 hm dJ4_append_cf468_7
set_option maxHeartbeats 4000000 in
set_option maxRecDepth 100000 in
theorem k_J4_append_bf812 (l : Launch) {Y : rc_Y} {sh : Nat → Nat} {rf : rc_F} (hT : rc_T Y sh rf) (a0 : Nat) (u1 : Int32) (h0 : sh a0 = 11) (sz : Nat) (σ σ' : rc_S) (r : Nat) (hm : f_J4_append_bf812 rf a0 u1 σ = some (r, σ')) : Met l yJ4_append_bf812 (Cond.code yJ4_append_bf812 cJ4_append_bf812 2 (some (.object "java/lang/StringBuilder")) :: rc_big) ({ frames := 2, cells := 0, slots := 0, locals := 49 } : Room) (rc_P Y sh rf σ sz [.ref a0, .int u1]) (va_Qr (fun (_ : Unit) => True) (fun _ a t => (a = r ∧ sh a = 11) ∧ rc_W Y sh rf σ' t.heap) (rc_A sh sz)) 0 0 (rc_A sh sz) := by
  refine rc_ofWF (cc := cJ4_append_bf812) (maxL := 2) (ret := (some (.object "java/lang/StringBuilder"))) (by decide +kernel) rfl ?_
  intro p e s m args below meth c s₁ B hml hv
  obtain ⟨rfl, hsz, hW, hK, hE⟩ := hv
  have hx := B.exec
  have hb := B.bytes
  have hr := B.returns
  have hts : ∀ w ∈ rc_big, w.before _ s = true := fun w h => atoms_spec (ws := Cond.code yJ4_append_bf812 cJ4_append_bf812 2 (some (.object "java/lang/StringBuilder")) :: rc_big) B.pre w (List.mem_cons_of_mem _ h)
  have hown : s.vm.findClass RJ4 = some m.cls := findClass_of_methodNamed B.named
  have hlocks := B.notSynchronized
  clear B
  subst hsz
  have hS : va_S (rc_A sh s.heap.size) s.heap s.heap [] := va_S.rf
  have hl := lv_entry ([.ref a0, .int u1]) (n := 2) (Nat.le_of_ble_eq_true rfl)
  rw [lg_entry_eq]
  generalize (lg_sl ([.ref a0, .int u1]) ++ List.replicate (2 - (lg_sl ([.ref a0, .int u1])).length) Slot.unset).toArray = ls at hl ⊢
  have hl : lv_has ls 2 [(0, .ref a0), (1, .int u1)] := hl
  unfold f_J4_append_bf812 at hm
  refine lv_aload_n hx hb dJ4_append_bf812_0 rfl (lv_at hl 0 rfl) ?_
  refine lv_iload_n hx hb dJ4_append_bf812_1 rfl (lv_at hl 1 rfl) ?_
  obtain ⟨w_1, σ_1, hc_1, hm0⟩ := rc_bd_inv hm
  clear hm
  refine rc_cr hS (va_runSU (hK.1 1 _ rfl).2 (As := [.int u1]) (rest := []) ⟨hx, hb, hml, hown, hts⟩ (k_J5_append_c97b9 l hT a0 u1 h0 s.heap.size _ _ _ hc_1) (va_cwSU 1 hts (rc_gSU tw_5_19 tw_7_106 tw_2_80 tw_5_20 tw_1_10 tw_5_21) rfl rfl rfl (by decide +kernel) ⟨Nat.le_of_ble_eq_true rfl, Nat.le_of_ble_eq_true rfl⟩) (rc_preV hT hW hK hE hS h0 (by decide) rfl (q := (RJ4, TJ4, 4)) rfl [.int u1]) rfl rfl hl.1 rfl (lv_room (Nat.le_of_ble_eq_true rfl)) dJ4_append_bf812_2 ⟨Nat.le_of_ble_eq_true rfl, Nat.le_of_ble_eq_true rfl⟩) (fun H locs hr_1 hW hS => ?_)
  have hm := hm0
  clear hm0 hc_1
  refine lv_pop hx hb dJ4_append_bf812_5 rfl ?_
  refine lv_aload_n hx hb dJ4_append_bf812_6 rfl (lv_at hl 0 rfl) ?_
  exact rc_earet hx hb hr hlocks hW hS (Nat.le_of_ble_eq_true rfl) (Nat.le_of_ble_eq_true rfl) h0 hm dJ4_append_bf812_7
set_option maxHeartbeats 4000000 in
set_option maxRecDepth 100000 in
theorem k_J4_charAt_5068e (l : Launch) {Y : rc_Y} {sh : Nat → Nat} {rf : rc_F} (hT : rc_T Y sh rf) (a0 : Nat) (u1 : Int32) (h0 : sh a0 = 11) (sz : Nat) (σ σ' : rc_S) (r : Int32) (hm : f_J4_charAt_5068e rf a0 u1 σ = some (r, σ')) : Met l yJ4_charAt_5068e (Cond.code yJ4_charAt_5068e cJ4_charAt_5068e 2 (some .char) :: rc_big) ({ frames := 3, cells := 0, slots := 0, locals := 67 } : Room) (rc_P Y sh rf σ sz [.ref a0, .int u1]) (va_Qi (fun (r' : Int32) (_ : Unit) => r' = r) (fun _ t => rc_W Y sh rf σ' t.heap) (rc_A sh sz)) 0 0 (rc_A sh sz) := by
  refine rc_ofWF (cc := cJ4_charAt_5068e) (maxL := 2) (ret := (some .char)) (by decide +kernel) rfl ?_
  intro p e s m args below meth c s₁ B hml hv
  obtain ⟨rfl, hsz, hW, hK, hE⟩ := hv
  have hx := B.exec
  have hb := B.bytes
  have hr := B.returns
  have hts : ∀ w ∈ rc_big, w.before _ s = true := fun w h => atoms_spec (ws := Cond.code yJ4_charAt_5068e cJ4_charAt_5068e 2 (some .char) :: rc_big) B.pre w (List.mem_cons_of_mem _ h)
  have hown : s.vm.findClass RJ4 = some m.cls := findClass_of_methodNamed B.named
  have hlocks := B.notSynchronized
  clear B
  subst hsz
  have hS : va_S (rc_A sh s.heap.size) s.heap s.heap [] := va_S.rf
  have hl := lv_entry ([.ref a0, .int u1]) (n := 2) (Nat.le_of_ble_eq_true rfl)
  rw [lg_entry_eq]
  generalize (lg_sl ([.ref a0, .int u1]) ++ List.replicate (2 - (lg_sl ([.ref a0, .int u1])).length) Slot.unset).toArray = ls at hl ⊢
  have hl : lv_has ls 2 [(0, .ref a0), (1, .int u1)] := hl
  unfold f_J4_charAt_5068e at hm
  refine lv_aload_n hx hb dJ4_charAt_5068e_0 rfl (lv_at hl 0 rfl) ?_
  refine lv_iload_n hx hb dJ4_charAt_5068e_1 rfl (lv_at hl 1 rfl) ?_
  obtain ⟨w_1, σ_1, hc_1, hm0⟩ := rc_bd_inv hm
  clear hm
  refine rc_ci hS (va_runSU (hK.1 1 _ rfl).2 (As := [.int u1]) (rest := []) ⟨hx, hb, hml, hown, hts⟩ (k_J5_charAt_5068e l hT a0 u1 h0 s.heap.size _ _ _ hc_1) (va_cwSU 1 hts (rc_gSU tw_6_135 tw_7_110 tw_2_80 tw_6_136 tw_1_10 tw_6_137) rfl rfl rfl (by decide +kernel) ⟨Nat.le_of_ble_eq_true rfl, Nat.le_of_ble_eq_true rfl⟩) (rc_preV hT hW hK hE hS h0 (by decide) rfl (q := (RJ4, TJ4, 4)) rfl [.int u1]) rfl rfl hl.1 rfl (lv_room (Nat.le_of_ble_eq_true rfl)) dJ4_charAt_5068e_2 ⟨Nat.le_of_ble_eq_true rfl, Nat.le_of_ble_eq_true rfl⟩) (fun H locs hW hS => ?_)
  have hm := hm0
  clear hm0 hc_1
  have hn := (rc_dc hm).1
  replace hm := (rc_dc hm).2
  exact rc_ezret hx hb hr hlocks hW hS (Nat.le_of_ble_eq_true rfl) (Nat.le_of_ble_eq_true rfl) (rc_narc hn) hm dJ4_charAt_5068e_5
set_option maxHeartbeats 4000000 in
set_option maxRecDepth 100000 in
theorem k_X0_copyVintage (l : Launch) {Y : rc_Y} {sh : Nat → Nat} {rf : rc_F} (hT : rc_T Y sh rf) (a0 : Nat) (q1 : Nat) (h0 : sh a0 = 1) (hq1 : sh q1 = 1) (sz : Nat) (σ σ' : rc_S) (r : Unit) (hm : f_X0_copyVintage rf a0 q1 σ = some (r, σ')) : Met l yX0_copyVintage (Cond.code yX0_copyVintage cX0_copyVintage 2 none :: rc_big) ({ frames := 0, cells := 0, slots := 0, locals := 0 } : Room) (rc_P Y sh rf σ sz [.ref a0, .ref q1]) (va_Qv (fun (_ : Unit) => True) (fun _ t => rc_W Y sh rf σ' t.heap) (rc_A sh sz)) 0 0 (rc_A sh sz) := by
  refine Met.ofW (cc := cX0_copyVintage) (maxL := 2) (ret := none) (by decide +kernel) rfl ?_
  intro p e s m args below meth c s₁ B hml hv
  obtain ⟨rfl, hsz, hW, hK, hE⟩ := hv
  have hx := B.exec
  have hb := B.bytes
  have hr := B.returns
  have hts : ∀ w ∈ rc_big, w.before _ s = true := fun w h => atoms_spec (ws := Cond.code yX0_copyVintage cX0_copyVintage 2 none :: rc_big) B.pre w (List.mem_cons_of_mem _ h)
  have hown : s.vm.findClass RX0 = some m.cls := findClass_of_methodNamed B.named
  have hlocks := B.notSynchronized
  clear B
  subst hsz
  have hS : va_S (rc_A sh s.heap.size) s.heap s.heap [] := va_S.rf
  have hl := lv_entry ([.ref a0, .ref q1]) (n := 2) (Nat.le_of_ble_eq_true rfl)
  rw [lg_entry_eq]
  generalize (lg_sl ([.ref a0, .ref q1]) ++ List.replicate (2 - (lg_sl ([.ref a0, .ref q1])).length) Slot.unset).toArray = ls at hl ⊢
  have hl : lv_has ls 2 [(0, .ref a0), (1, .ref q1)] := hl
  unfold f_X0_copyVintage at hm
  refine lv_aload_n hx hb dX0_copyVintage_0 rfl (lv_at hl 0 rfl) ?_
  refine lv_aload_n hx hb dX0_copyVintage_1 rfl (lv_at hl 1 rfl) ?_
  refine rg_1_3 hx hb hts hown hK hW hq1 tw_1_97 dX0_copyVintage_2 ?_
  refine rp_1_3 hx hb hts hown hK hW hS h0 tw_1_97 dX0_copyVintage_5 (fun σ_1 H locs eσ hW hS => ?_)
  replace hm := rc_lt_at hm eσ
  clear eσ
  refine lv_aload_n hx hb dX0_copyVintage_8 rfl (lv_at hl 0 rfl) ?_
  refine lv_aload_n hx hb dX0_copyVintage_9 rfl (lv_at hl 1 rfl) ?_
  refine rg_1_4 hx hb hts hown hK hW hq1 tw_1_101 dX0_copyVintage_10 ?_
  refine rp_1_4 hx hb hts hown hK hW hS h0 tw_1_101 dX0_copyVintage_13 (fun σ_2 H locs eσ hW hS => ?_)
  replace hm := rc_lt_at hm eσ
  clear eσ
  refine lv_aload_n hx hb dX0_copyVintage_16 rfl (lv_at hl 0 rfl) ?_
  refine lv_aload_n hx hb dX0_copyVintage_17 rfl (lv_at hl 1 rfl) ?_
  refine rg_1_5 hx hb hts hown hK hW hq1 tw_1_103 dX0_copyVintage_18 ?_
  refine rp_1_5 hx hb hts hown hK hW hS h0 tw_1_103 dX0_copyVintage_21 (fun σ_3 H locs eσ hW hS => ?_)
  replace hm := rc_lt_at hm eσ
  clear eσ
  exact rc_evret hx hb hr hlocks hW hS (Nat.le_of_ble_eq_true rfl) (Nat.le_of_ble_eq_true rfl) hm dX0_copyVintage_24
set_option maxHeartbeats 4000000 in
set_option maxRecDepth 100000 in
theorem k_X0_makeEmpty (l : Launch) {Y : rc_Y} {sh : Nat → Nat} {rf : rc_F} (hT : rc_T Y sh rf) (a0 : Nat) (h0 : sh a0 = 1) (sz : Nat) (σ σ' : rc_S) (r : Unit) (hm : f_X0_makeEmpty rf a0 σ = some (r, σ')) : Met l yX0_makeEmpty (Cond.code yX0_makeEmpty cX0_makeEmpty 1 none :: rc_big) ({ frames := 0, cells := 0, slots := 0, locals := 0 } : Room) (rc_P Y sh rf σ sz [.ref a0]) (va_Qv (fun (_ : Unit) => True) (fun _ t => rc_W Y sh rf σ' t.heap) (rc_A sh sz)) 0 0 (rc_A sh sz) := by
  refine Met.ofW (cc := cX0_makeEmpty) (maxL := 1) (ret := none) (by decide +kernel) rfl ?_
  intro p e s m args below meth c s₁ B hml hv
  obtain ⟨rfl, hsz, hW, hK, hE⟩ := hv
  have hx := B.exec
  have hb := B.bytes
  have hr := B.returns
  have hts : ∀ w ∈ rc_big, w.before _ s = true := fun w h => atoms_spec (ws := Cond.code yX0_makeEmpty cX0_makeEmpty 1 none :: rc_big) B.pre w (List.mem_cons_of_mem _ h)
  have hown : s.vm.findClass RX0 = some m.cls := findClass_of_methodNamed B.named
  have hlocks := B.notSynchronized
  clear B
  subst hsz
  have hS : va_S (rc_A sh s.heap.size) s.heap s.heap [] := va_S.rf
  have hl := lv_entry ([.ref a0]) (n := 1) (Nat.le_of_ble_eq_true rfl)
  rw [lg_entry_eq]
  generalize (lg_sl ([.ref a0]) ++ List.replicate (1 - (lg_sl ([.ref a0])).length) Slot.unset).toArray = ls at hl ⊢
  have hl : lv_has ls 1 [(0, .ref a0)] := hl
  unfold f_X0_makeEmpty at hm
  refine lv_aload_n hx hb dX0_makeEmpty_0 rfl (lv_at hl 0 rfl) ?_
  refine lv_iconst (v := 0) hx hb dX0_makeEmpty_1 (by decide) ?_
  refine rp_1_1 hx hb hts hown hK hW hS h0 tw_1_89 dX0_makeEmpty_2 (fun σ_1 H locs eσ hW hS => ?_)
  replace hm := rc_lt_at hm eσ
  clear eσ
  refine lv_aload_n hx hb dX0_makeEmpty_5 rfl (lv_at hl 0 rfl) ?_
  refine lv_iconst (v := 0) hx hb dX0_makeEmpty_6 (by decide) ?_
  refine rp_1_2 hx hb hts hown hK hW hS h0 tw_1_93 dX0_makeEmpty_7 (fun σ_2 H locs eσ hW hS => ?_)
  replace hm := rc_lt_at hm eσ
  clear eσ
  refine lv_aload_n hx hb dX0_makeEmpty_10 rfl (lv_at hl 0 rfl) ?_
  refine lv_iconst (v := (-1)) hx hb dX0_makeEmpty_11 (by decide) ?_
  refine rp_1_3 hx hb hts hown hK hW hS h0 tw_1_97 dX0_makeEmpty_12 (fun σ_3 H locs eσ hW hS => ?_)
  replace hm := rc_lt_at hm eσ
  clear eσ
  refine lv_aload_n hx hb dX0_makeEmpty_15 rfl (lv_at hl 0 rfl) ?_
  refine lv_iconst (v := 0) hx hb dX0_makeEmpty_16 (by decide) ?_
  refine rp_1_4 hx hb hts hown hK hW hS h0 tw_1_101 dX0_makeEmpty_17 (fun σ_4 H locs eσ hW hS => ?_)
  replace hm := rc_lt_at hm eσ
  clear eσ
  refine lv_aload_n hx hb dX0_makeEmpty_20 rfl (lv_at hl 0 rfl) ?_
  refine lv_iconst (v := 0) hx hb dX0_makeEmpty_21 (by decide) ?_
  refine rp_1_5 hx hb hts hown hK hW hS h0 tw_1_103 dX0_makeEmpty_22 (fun σ_5 H locs eσ hW hS => ?_)
  replace hm := rc_lt_at hm eσ
  clear eσ
  exact rc_evret hx hb hr hlocks hW hS (Nat.le_of_ble_eq_true rfl) (Nat.le_of_ble_eq_true rfl) hm dX0_makeEmpty_25
set_option maxHeartbeats 4000000 in
set_option maxRecDepth 100000 in
theorem k_X0_isEmpty (l : Launch) {Y : rc_Y} {sh : Nat → Nat} {rf : rc_F} (hT : rc_T Y sh rf) (a0 : Nat) (h0 : sh a0 = 1) (sz : Nat) (σ σ' : rc_S) (r : Int32) (hm : f_X0_isEmpty rf a0 σ = some (r, σ')) : Met l yX0_isEmpty (Cond.code yX0_isEmpty cX0_isEmpty 1 (some .boolean) :: rc_big) ({ frames := 0, cells := 0, slots := 0, locals := 0 } : Room) (rc_P Y sh rf σ sz [.ref a0]) (va_Qi (fun (r' : Int32) (_ : Unit) => r' = r) (fun _ t => rc_W Y sh rf σ' t.heap) (rc_A sh sz)) 0 0 (rc_A sh sz) := by
  refine Met.ofW (cc := cX0_isEmpty) (maxL := 1) (ret := (some .boolean)) (by decide +kernel) rfl ?_
  intro p e s m args below meth c s₁ B hml hv
  obtain ⟨rfl, hsz, hW, hK, hE⟩ := hv
  have hx := B.exec
  have hb := B.bytes
  have hr := B.returns
  have hts : ∀ w ∈ rc_big, w.before _ s = true := fun w h => atoms_spec (ws := Cond.code yX0_isEmpty cX0_isEmpty 1 (some .boolean) :: rc_big) B.pre w (List.mem_cons_of_mem _ h)
  have hown : s.vm.findClass RX0 = some m.cls := findClass_of_methodNamed B.named
  have hlocks := B.notSynchronized
  clear B
  subst hsz
  have hS : va_S (rc_A sh s.heap.size) s.heap s.heap [] := va_S.rf
  have hl := lv_entry ([.ref a0]) (n := 1) (Nat.le_of_ble_eq_true rfl)
  rw [lg_entry_eq]
  generalize (lg_sl ([.ref a0]) ++ List.replicate (1 - (lg_sl ([.ref a0])).length) Slot.unset).toArray = ls at hl ⊢
  have hl : lv_has ls 1 [(0, .ref a0)] := hl
  unfold f_X0_isEmpty at hm
  refine lv_aload_n hx hb dX0_isEmpty_0 rfl (lv_at hl 0 rfl) ?_
  refine rg_1_1 hx hb hts hown hK hW h0 tw_1_89 dX0_isEmpty_1 ?_
  refine lv_if_ne (tgt := 11) hx hb dX0_isEmpty_4 (by decide) (fun c_1 => ?_) (fun c_1 => ?_)
  · replace hm := rc_f hm c_1
    refine lv_iconst (v := 0) hx hb dX0_isEmpty_11 (by decide) ?_
    exact rc_ezret hx hb hr hlocks hW hS (Nat.le_of_ble_eq_true rfl) (Nat.le_of_ble_eq_true rfl) rfl hm dX0_isEmpty_12
  · replace hm := rc_t hm c_1
    refine lv_iconst (v := 1) hx hb dX0_isEmpty_7 (by decide) ?_
    refine lv_goto (tgt := 12) hx hb dX0_isEmpty_8 (by decide) ?_
    exact rc_ezret hx hb hr hlocks hW hS (Nat.le_of_ble_eq_true rfl) (Nat.le_of_ble_eq_true rfl) rfl hm dX0_isEmpty_12
set_option maxHeartbeats 4000000 in
set_option maxRecDepth 100000 in
theorem k_X0_isFreeFor (l : Launch) {Y : rc_Y} {sh : Nat → Nat} {rf : rc_F} (hT : rc_T Y sh rf) (a0 : Nat) (u1 : Int32) (h0 : sh a0 = 1) (sz : Nat) (σ σ' : rc_S) (r : Int32) (hm : f_X0_isFreeFor rf a0 u1 σ = some (r, σ')) : Met l yX0_isFreeFor (Cond.code yX0_isFreeFor cX0_isFreeFor 2 (some .boolean) :: rc_big) ({ frames := 1, cells := 0, slots := 0, locals := 20 } : Room) (rc_P Y sh rf σ sz [.ref a0, .int u1]) (va_Qi (fun (r' : Int32) (_ : Unit) => r' = r) (fun _ t => rc_W Y sh rf σ' t.heap) (rc_A sh sz)) 0 0 (rc_A sh sz) := by
  refine Met.ofW (cc := cX0_isFreeFor) (maxL := 2) (ret := (some .boolean)) (by decide +kernel) rfl ?_
  intro p e s m args below meth c s₁ B hml hv
  obtain ⟨rfl, hsz, hW, hK, hE⟩ := hv
  have hx := B.exec
  have hb := B.bytes
  have hr := B.returns
  have hts : ∀ w ∈ rc_big, w.before _ s = true := fun w h => atoms_spec (ws := Cond.code yX0_isFreeFor cX0_isFreeFor 2 (some .boolean) :: rc_big) B.pre w (List.mem_cons_of_mem _ h)
  have hown : s.vm.findClass RX0 = some m.cls := findClass_of_methodNamed B.named
  have hlocks := B.notSynchronized
  clear B
  subst hsz
  have hS : va_S (rc_A sh s.heap.size) s.heap s.heap [] := va_S.rf
  have hl := lv_entry ([.ref a0, .int u1]) (n := 2) (Nat.le_of_ble_eq_true rfl)
  rw [lg_entry_eq]
  generalize (lg_sl ([.ref a0, .int u1]) ++ List.replicate (2 - (lg_sl ([.ref a0, .int u1])).length) Slot.unset).toArray = ls at hl ⊢
  have hl : lv_has ls 2 [(0, .ref a0), (1, .int u1)] := hl
  unfold f_X0_isFreeFor at hm
  refine lv_aload_n hx hb dX0_isFreeFor_0 rfl (lv_at hl 0 rfl) ?_
  obtain ⟨w_1, σ_1, hc_1, hm0⟩ := rc_bd_inv hm
  clear hm
  refine rc_ci hS (va_runV (As := []) (rest := []) ⟨hx, hb, hml, hown, hts⟩ (k_X0_isEmpty l hT a0 h0 s.heap.size _ _ _ hc_1) (cwV 0 hts (rc_gV tw_3_25 tw_2_239 tw_3_0 tw_1_5 tw_3_1) rfl rfl rfl (by decide +kernel) ⟨Nat.le_of_ble_eq_true rfl, Nat.le_of_ble_eq_true rfl⟩) (rc_preV hT hW hK hE hS h0 (by decide) rfl (q := (RX0, TX0, 6)) rfl []) rfl rfl hl.1 rfl (lv_room (Nat.le_of_ble_eq_true rfl)) dX0_isFreeFor_1 ⟨Nat.le_of_ble_eq_true rfl, Nat.le_of_ble_eq_true rfl⟩) (fun H locs hW hS => ?_)
  have hm := hm0
  clear hm0 hc_1
  refine lv_if_ne (tgt := 15) hx hb dX0_isFreeFor_4 (by decide) (fun c_3 => ?_) (fun c_3 => ?_)
  · replace hm := rc_f hm c_3
    refine lv_iconst (v := 1) hx hb dX0_isFreeFor_15 (by decide) ?_
    refine lv_goto (tgt := 20) hx hb dX0_isFreeFor_16 (by decide) ?_
    exact rc_ezret hx hb hr hlocks hW hS (Nat.le_of_ble_eq_true rfl) (Nat.le_of_ble_eq_true rfl) rfl hm dX0_isFreeFor_20
  · replace hm := rc_t hm c_3
    refine lv_aload_n hx hb dX0_isFreeFor_7 rfl (lv_at hl 0 rfl) ?_
    refine rg_1_3 hx hb hts hown hK hW h0 tw_1_97 dX0_isFreeFor_8 ?_
    refine lv_iload_n hx hb dX0_isFreeFor_11 rfl (lv_at hl 1 rfl) ?_
    refine lv_icmp_ne (tgt := 19) hx hb dX0_isFreeFor_12 (by decide) (fun c_2 => ?_) (fun c_2 => ?_)
    · replace hm := rc_f hm c_2
      refine lv_iconst (v := 0) hx hb dX0_isFreeFor_19 (by decide) ?_
      exact rc_ezret hx hb hr hlocks hW hS (Nat.le_of_ble_eq_true rfl) (Nat.le_of_ble_eq_true rfl) rfl hm dX0_isFreeFor_20
    · replace hm := rc_t hm c_2
      refine lv_iconst (v := 1) hx hb dX0_isFreeFor_15 (by decide) ?_
      refine lv_goto (tgt := 20) hx hb dX0_isFreeFor_16 (by decide) ?_
      exact rc_ezret hx hb hr hlocks hW hS (Nat.le_of_ble_eq_true rfl) (Nat.le_of_ble_eq_true rfl) rfl hm dX0_isFreeFor_20
set_option maxHeartbeats 4000000 in
set_option maxRecDepth 100000 in
theorem k_X0_room (l : Launch) {Y : rc_Y} {sh : Nat → Nat} {rf : rc_F} (hT : rc_T Y sh rf) (a0 : Nat) (h0 : sh a0 = 1) (sz : Nat) (σ σ' : rc_S) (r : Int32) (hm : f_X0_room rf a0 σ = some (r, σ')) : Met l yX0_room (Cond.code yX0_room cX0_room 1 (some .int) :: rc_big) ({ frames := 0, cells := 0, slots := 0, locals := 0 } : Room) (rc_P Y sh rf σ sz [.ref a0]) (va_Qi (fun (r' : Int32) (_ : Unit) => r' = r) (fun _ t => rc_W Y sh rf σ' t.heap) (rc_A sh sz)) 0 0 (rc_A sh sz) := by
  refine Met.ofW (cc := cX0_room) (maxL := 1) (ret := (some .int)) (by decide +kernel) rfl ?_
  intro p e s m args below meth c s₁ B hml hv
  obtain ⟨rfl, hsz, hW, hK, hE⟩ := hv
  have hx := B.exec
  have hb := B.bytes
  have hr := B.returns
  have hts : ∀ w ∈ rc_big, w.before _ s = true := fun w h => atoms_spec (ws := Cond.code yX0_room cX0_room 1 (some .int) :: rc_big) B.pre w (List.mem_cons_of_mem _ h)
  have hown : s.vm.findClass RX0 = some m.cls := findClass_of_methodNamed B.named
  have hlocks := B.notSynchronized
  clear B
  subst hsz
  have hS : va_S (rc_A sh s.heap.size) s.heap s.heap [] := va_S.rf
  have hl := lv_entry ([.ref a0]) (n := 1) (Nat.le_of_ble_eq_true rfl)
  rw [lg_entry_eq]
  generalize (lg_sl ([.ref a0]) ++ List.replicate (1 - (lg_sl ([.ref a0])).length) Slot.unset).toArray = ls at hl ⊢
  have hl : lv_has ls 1 [(0, .ref a0)] := hl
  unfold f_X0_room at hm
  refine lv_bipush (v := 20) hx hb dX0_room_0 (by decide) ?_
  refine lv_aload_n hx hb dX0_room_2 rfl (lv_at hl 0 rfl) ?_
  refine rg_1_1 hx hb hts hown hK hW h0 tw_1_89 dX0_room_3 ?_
  refine lv_isub hx hb dX0_room_6 ?_
  exact rc_eiret hx hb hr hlocks hW hS (Nat.le_of_ble_eq_true rfl) (Nat.le_of_ble_eq_true rfl) hm dX0_room_7
set_option maxHeartbeats 4000000 in
set_option maxRecDepth 100000 in
theorem k_X0_hailPartWith (l : Launch) {Y : rc_Y} {sh : Nat → Nat} {rf : rc_F} (hT : rc_T Y sh rf) (a0 : Nat) (u1 : Int32) (h0 : sh a0 = 1) (sz : Nat) (σ σ' : rc_S) (r : Int32) (hm : f_X0_hailPartWith rf a0 u1 σ = some (r, σ')) : Met l yX0_hailPartWith (Cond.code yX0_hailPartWith cX0_hailPartWith 3 (some .int) :: rc_big) ({ frames := 0, cells := 0, slots := 0, locals := 0 } : Room) (rc_P Y sh rf σ sz [.ref a0, .int u1]) (va_Qi (fun (r' : Int32) (_ : Unit) => r' = r) (fun _ t => rc_W Y sh rf σ' t.heap) (rc_A sh sz)) 0 0 (rc_A sh sz) := by
  refine Met.ofW (cc := cX0_hailPartWith) (maxL := 3) (ret := (some .int)) (by decide +kernel) rfl ?_
  intro p e s m args below meth c s₁ B hml hv
  obtain ⟨rfl, hsz, hW, hK, hE⟩ := hv
  have hx := B.exec
  have hb := B.bytes
  have hr := B.returns
  have hts : ∀ w ∈ rc_big, w.before _ s = true := fun w h => atoms_spec (ws := Cond.code yX0_hailPartWith cX0_hailPartWith 3 (some .int) :: rc_big) B.pre w (List.mem_cons_of_mem _ h)
  have hown : s.vm.findClass RX0 = some m.cls := findClass_of_methodNamed B.named
  have hlocks := B.notSynchronized
  clear B
  subst hsz
  have hS : va_S (rc_A sh s.heap.size) s.heap s.heap [] := va_S.rf
  have hl := lv_entry ([.ref a0, .int u1]) (n := 3) (Nat.le_of_ble_eq_true rfl)
  rw [lg_entry_eq]
  generalize (lg_sl ([.ref a0, .int u1]) ++ List.replicate (3 - (lg_sl ([.ref a0, .int u1])).length) Slot.unset).toArray = ls at hl ⊢
  have hl : lv_has ls 3 [(0, .ref a0), (1, .int u1)] := hl
  unfold f_X0_hailPartWith at hm
  refine lv_aload_n hx hb dX0_hailPartWith_0 rfl (lv_at hl 0 rfl) ?_
  refine rg_1_1 hx hb hts hown hK hW h0 tw_1_89 dX0_hailPartWith_1 ?_
  refine lv_iload_n hx hb dX0_hailPartWith_4 rfl (lv_at hl 1 rfl) ?_
  refine lv_iadd hx hb dX0_hailPartWith_5 ?_
  refine lv_topi (fun v2_1 ev => ?_)
  replace hm := rc_lt_at hm ev
  clear ev
  refine lv_istore_n (lv' := [(2, .int v2_1), (0, .ref a0), (1, .int u1)]) hx hb dX0_hailPartWith_6 rfl hl (by decide) rfl (fun ls hl => ?_)
  refine lv_iload_n hx hb dX0_hailPartWith_7 rfl (lv_at hl 0 rfl) ?_
  refine lv_if_gt (tgt := 15) hx hb dX0_hailPartWith_8 (by decide) (fun c_3 => ?_) (fun c_3 => ?_)
  · replace hm := rc_t hm c_3
    refine lv_bipush (v := 100) hx hb dX0_hailPartWith_15 (by decide) ?_
    refine lv_aload_n hx hb dX0_hailPartWith_17 rfl (lv_at hl 1 rfl) ?_
    refine rg_1_2 hx hb hts hown hK hW h0 tw_1_93 dX0_hailPartWith_18 ?_
    refine lv_iload_n hx hb dX0_hailPartWith_21 rfl (lv_at hl 2 rfl) ?_
    refine lv_iadd hx hb dX0_hailPartWith_22 ?_
    refine lv_imul hx hb dX0_hailPartWith_23 ?_
    refine lv_iload_n hx hb dX0_hailPartWith_24 rfl (lv_at hl 0 rfl) ?_
    have hz_2 := (rc_nz hm).1
    replace hm := (rc_nz hm).2
    refine lv_idiv hx hb dX0_hailPartWith_25 hz_2 ?_
    exact rc_eiret hx hb hr hlocks hW hS (Nat.le_of_ble_eq_true rfl) (Nat.le_of_ble_eq_true rfl) hm dX0_hailPartWith_26
  · replace hm := rc_f hm c_3
    refine lv_iconst (v := 0) hx hb dX0_hailPartWith_11 (by decide) ?_
    refine lv_goto (tgt := 26) hx hb dX0_hailPartWith_12 (by decide) ?_
    exact rc_eiret hx hb hr hlocks hW hS (Nat.le_of_ble_eq_true rfl) (Nat.le_of_ble_eq_true rfl) hm dX0_hailPartWith_26
set_option maxHeartbeats 4000000 in
set_option maxRecDepth 100000 in
theorem k_X0_ageIn (l : Launch) {Y : rc_Y} {sh : Nat → Nat} {rf : rc_F} (hT : rc_T Y sh rf) (a0 : Nat) (u1 : Int32) (h0 : sh a0 = 1) (sz : Nat) (σ σ' : rc_S) (r : Int32) (hm : f_X0_ageIn rf a0 u1 σ = some (r, σ')) : Met l yX0_ageIn (Cond.code yX0_ageIn cX0_ageIn 2 (some .int) :: rc_big) ({ frames := 1, cells := 0, slots := 0, locals := 20 } : Room) (rc_P Y sh rf σ sz [.ref a0, .int u1]) (va_Qi (fun (r' : Int32) (_ : Unit) => r' = r) (fun _ t => rc_W Y sh rf σ' t.heap) (rc_A sh sz)) 0 0 (rc_A sh sz) := by
  refine Met.ofW (cc := cX0_ageIn) (maxL := 2) (ret := (some .int)) (by decide +kernel) rfl ?_
  intro p e s m args below meth c s₁ B hml hv
  obtain ⟨rfl, hsz, hW, hK, hE⟩ := hv
  have hx := B.exec
  have hb := B.bytes
  have hr := B.returns
  have hts : ∀ w ∈ rc_big, w.before _ s = true := fun w h => atoms_spec (ws := Cond.code yX0_ageIn cX0_ageIn 2 (some .int) :: rc_big) B.pre w (List.mem_cons_of_mem _ h)
  have hown : s.vm.findClass RX0 = some m.cls := findClass_of_methodNamed B.named
  have hlocks := B.notSynchronized
  clear B
  subst hsz
  have hS : va_S (rc_A sh s.heap.size) s.heap s.heap [] := va_S.rf
  have hl := lv_entry ([.ref a0, .int u1]) (n := 2) (Nat.le_of_ble_eq_true rfl)
  rw [lg_entry_eq]
  generalize (lg_sl ([.ref a0, .int u1]) ++ List.replicate (2 - (lg_sl ([.ref a0, .int u1])).length) Slot.unset).toArray = ls at hl ⊢
  have hl : lv_has ls 2 [(0, .ref a0), (1, .int u1)] := hl
  unfold f_X0_ageIn at hm
  refine lv_aload_n hx hb dX0_ageIn_0 rfl (lv_at hl 0 rfl) ?_
  obtain ⟨w_1, σ_1, hc_1, hm0⟩ := rc_bd_inv hm
  clear hm
  refine rc_ci hS (va_runV (As := []) (rest := []) ⟨hx, hb, hml, hown, hts⟩ (k_X0_isEmpty l hT a0 h0 s.heap.size _ _ _ hc_1) (cwV 0 hts (rc_gV tw_3_25 tw_2_239 tw_3_0 tw_1_5 tw_3_1) rfl rfl rfl (by decide +kernel) ⟨Nat.le_of_ble_eq_true rfl, Nat.le_of_ble_eq_true rfl⟩) (rc_preV hT hW hK hE hS h0 (by decide) rfl (q := (RX0, TX0, 6)) rfl []) rfl rfl hl.1 rfl (lv_room (Nat.le_of_ble_eq_true rfl)) dX0_ageIn_1 ⟨Nat.le_of_ble_eq_true rfl, Nat.le_of_ble_eq_true rfl⟩) (fun H locs hW hS => ?_)
  have hm := hm0
  clear hm0 hc_1
  refine lv_if_eq (tgt := 11) hx hb dX0_ageIn_4 (by decide) (fun c_2 => ?_) (fun c_2 => ?_)
  · replace hm := rc_t hm c_2
    refine lv_iload_n hx hb dX0_ageIn_11 rfl (lv_at hl 1 rfl) ?_
    refine lv_aload_n hx hb dX0_ageIn_12 rfl (lv_at hl 0 rfl) ?_
    refine rg_1_4 hx hb hts hown hK hW h0 tw_1_101 dX0_ageIn_13 ?_
    refine lv_isub hx hb dX0_ageIn_16 ?_
    exact rc_eiret hx hb hr hlocks hW hS (Nat.le_of_ble_eq_true rfl) (Nat.le_of_ble_eq_true rfl) hm dX0_ageIn_17
  · replace hm := rc_f hm c_2
    refine lv_iconst (v := 0) hx hb dX0_ageIn_7 (by decide) ?_
    refine lv_goto (tgt := 17) hx hb dX0_ageIn_8 (by decide) ?_
    exact rc_eiret hx hb hr hlocks hW hS (Nat.le_of_ble_eq_true rfl) (Nat.le_of_ble_eq_true rfl) hm dX0_ageIn_17
set_option maxHeartbeats 4000000 in
set_option maxRecDepth 100000 in
theorem k_X1_copyCounts (l : Launch) {Y : rc_Y} {sh : Nat → Nat} {rf : rc_F} (hT : rc_T Y sh rf) (a0 : Nat) (q1 : Nat) (h0 : sh a0 = 2) (hq1 : sh q1 = 2) (sz : Nat) (σ σ' : rc_S) (r : Unit) (hm : f_X1_copyCounts rf a0 q1 σ = some (r, σ')) : Met l yX1_copyCounts (Cond.code yX1_copyCounts cX1_copyCounts 2 none :: rc_big) ({ frames := 0, cells := 0, slots := 0, locals := 0 } : Room) (rc_P Y sh rf σ sz [.ref a0, .ref q1]) (va_Qv (fun (_ : Unit) => True) (fun _ t => rc_W Y sh rf σ' t.heap) (rc_A sh sz)) 0 0 (rc_A sh sz) := by
  refine Met.ofW (cc := cX1_copyCounts) (maxL := 2) (ret := none) (by decide +kernel) rfl ?_
  intro p e s m args below meth c s₁ B hml hv
  obtain ⟨rfl, hsz, hW, hK, hE⟩ := hv
  have hx := B.exec
  have hb := B.bytes
  have hr := B.returns
  have hts : ∀ w ∈ rc_big, w.before _ s = true := fun w h => atoms_spec (ws := Cond.code yX1_copyCounts cX1_copyCounts 2 none :: rc_big) B.pre w (List.mem_cons_of_mem _ h)
  have hown : s.vm.findClass RX1 = some m.cls := findClass_of_methodNamed B.named
  have hlocks := B.notSynchronized
  clear B
  subst hsz
  have hS : va_S (rc_A sh s.heap.size) s.heap s.heap [] := va_S.rf
  have hl := lv_entry ([.ref a0, .ref q1]) (n := 2) (Nat.le_of_ble_eq_true rfl)
  rw [lg_entry_eq]
  generalize (lg_sl ([.ref a0, .ref q1]) ++ List.replicate (2 - (lg_sl ([.ref a0, .ref q1])).length) Slot.unset).toArray = ls at hl ⊢
  have hl : lv_has ls 2 [(0, .ref a0), (1, .ref q1)] := hl
  unfold f_X1_copyCounts at hm
  refine lv_aload_n hx hb dX1_copyCounts_0 rfl (lv_at hl 0 rfl) ?_
  refine lv_aload_n hx hb dX1_copyCounts_1 rfl (lv_at hl 1 rfl) ?_
  refine rg_2_2 hx hb hts hown hK hW hq1 tw_1_146 dX1_copyCounts_2 ?_
  refine rp_2_2 hx hb hts hown hK hW hS h0 tw_1_146 dX1_copyCounts_5 (fun σ_1 H locs eσ hW hS => ?_)
  replace hm := rc_lt_at hm eσ
  clear eσ
  refine lv_aload_n hx hb dX1_copyCounts_8 rfl (lv_at hl 0 rfl) ?_
  refine lv_aload_n hx hb dX1_copyCounts_9 rfl (lv_at hl 1 rfl) ?_
  refine rg_2_5 hx hb hts hown hK hW hq1 tw_1_153 dX1_copyCounts_10 ?_
  refine rp_2_5 hx hb hts hown hK hW hS h0 tw_1_153 dX1_copyCounts_13 (fun σ_2 H locs eσ hW hS => ?_)
  replace hm := rc_lt_at hm eσ
  clear eσ
  refine lv_aload_n hx hb dX1_copyCounts_16 rfl (lv_at hl 0 rfl) ?_
  refine lv_aload_n hx hb dX1_copyCounts_17 rfl (lv_at hl 1 rfl) ?_
  refine rg_2_6 hx hb hts hown hK hW hq1 tw_1_156 dX1_copyCounts_18 ?_
  refine rp_2_6 hx hb hts hown hK hW hS h0 tw_1_156 dX1_copyCounts_21 (fun σ_3 H locs eσ hW hS => ?_)
  replace hm := rc_lt_at hm eσ
  clear eσ
  refine lv_aload_n hx hb dX1_copyCounts_24 rfl (lv_at hl 0 rfl) ?_
  refine lv_aload_n hx hb dX1_copyCounts_25 rfl (lv_at hl 1 rfl) ?_
  refine rg_2_7 hx hb hts hown hK hW hq1 tw_1_159 dX1_copyCounts_26 ?_
  refine rp_2_7 hx hb hts hown hK hW hS h0 tw_1_159 dX1_copyCounts_29 (fun σ_4 H locs eσ hW hS => ?_)
  replace hm := rc_lt_at hm eσ
  clear eσ
  refine lv_aload_n hx hb dX1_copyCounts_32 rfl (lv_at hl 0 rfl) ?_
  refine lv_aload_n hx hb dX1_copyCounts_33 rfl (lv_at hl 1 rfl) ?_
  refine rg_2_8 hx hb hts hown hK hW hq1 tw_1_162 dX1_copyCounts_34 ?_
  refine rp_2_8 hx hb hts hown hK hW hS h0 tw_1_162 dX1_copyCounts_37 (fun σ_5 H locs eσ hW hS => ?_)
  replace hm := rc_lt_at hm eσ
  clear eσ
  refine lv_aload_n hx hb dX1_copyCounts_40 rfl (lv_at hl 0 rfl) ?_
  refine lv_aload_n hx hb dX1_copyCounts_41 rfl (lv_at hl 1 rfl) ?_
  refine rg_2_9 hx hb hts hown hK hW hq1 tw_1_165 dX1_copyCounts_42 ?_
  refine rp_2_9 hx hb hts hown hK hW hS h0 tw_1_165 dX1_copyCounts_45 (fun σ_6 H locs eσ hW hS => ?_)
  replace hm := rc_lt_at hm eσ
  clear eσ
  refine lv_aload_n hx hb dX1_copyCounts_48 rfl (lv_at hl 0 rfl) ?_
  refine lv_aload_n hx hb dX1_copyCounts_49 rfl (lv_at hl 1 rfl) ?_
  refine rg_2_10 hx hb hts hown hK hW hq1 tw_1_168 dX1_copyCounts_50 ?_
  refine rp_2_10 hx hb hts hown hK hW hS h0 tw_1_168 dX1_copyCounts_53 (fun σ_7 H locs eσ hW hS => ?_)
  replace hm := rc_lt_at hm eσ
  clear eσ
  refine lv_aload_n hx hb dX1_copyCounts_56 rfl (lv_at hl 0 rfl) ?_
  refine lv_aload_n hx hb dX1_copyCounts_57 rfl (lv_at hl 1 rfl) ?_
  refine rg_2_11 hx hb hts hown hK hW hq1 tw_1_171 dX1_copyCounts_58 ?_
  refine rp_2_11 hx hb hts hown hK hW hS h0 tw_1_171 dX1_copyCounts_61 (fun σ_8 H locs eσ hW hS => ?_)
  replace hm := rc_lt_at hm eσ
  clear eσ
  refine lv_aload_n hx hb dX1_copyCounts_64 rfl (lv_at hl 0 rfl) ?_
  refine lv_aload_n hx hb dX1_copyCounts_65 rfl (lv_at hl 1 rfl) ?_
  refine rg_2_12 hx hb hts hown hK hW hq1 tw_1_174 dX1_copyCounts_66 ?_
  refine rp_2_12 hx hb hts hown hK hW hS h0 tw_1_174 dX1_copyCounts_69 (fun σ_9 H locs eσ hW hS => ?_)
  replace hm := rc_lt_at hm eσ
  clear eσ
  refine lv_aload_n hx hb dX1_copyCounts_72 rfl (lv_at hl 0 rfl) ?_
  refine lv_aload_n hx hb dX1_copyCounts_73 rfl (lv_at hl 1 rfl) ?_
  refine rg_2_13 hx hb hts hown hK hW hq1 tw_1_177 dX1_copyCounts_74 ?_
  refine rp_2_13 hx hb hts hown hK hW hS h0 tw_1_177 dX1_copyCounts_77 (fun σ_10 H locs eσ hW hS => ?_)
  replace hm := rc_lt_at hm eσ
  clear eσ
  exact rc_evret hx hb hr hlocks hW hS (Nat.le_of_ble_eq_true rfl) (Nat.le_of_ble_eq_true rfl) hm dX1_copyCounts_80
set_option maxHeartbeats 4000000 in
set_option maxRecDepth 100000 in
theorem k_X1_hasBarrel (l : Launch) {Y : rc_Y} {sh : Nat → Nat} {rf : rc_F} (hT : rc_T Y sh rf) (a0 : Nat) (u1 : Int32) (h0 : sh a0 = 2) (sz : Nat) (σ σ' : rc_S) (r : Int32) (hm : f_X1_hasBarrel rf a0 u1 σ = some (r, σ')) : Met l yX1_hasBarrel (Cond.code yX1_hasBarrel cX1_hasBarrel 2 (some .boolean) :: rc_big) ({ frames := 0, cells := 0, slots := 0, locals := 0 } : Room) (rc_P Y sh rf σ sz [.ref a0, .int u1]) (va_Qi (fun (r' : Int32) (_ : Unit) => r' = r) (fun _ t => rc_W Y sh rf σ' t.heap) (rc_A sh sz)) 0 0 (rc_A sh sz) := by
  refine Met.ofW (cc := cX1_hasBarrel) (maxL := 2) (ret := (some .boolean)) (by decide +kernel) rfl ?_
  intro p e s m args below meth c s₁ B hml hv
  obtain ⟨rfl, hsz, hW, hK, hE⟩ := hv
  have hx := B.exec
  have hb := B.bytes
  have hr := B.returns
  have hts : ∀ w ∈ rc_big, w.before _ s = true := fun w h => atoms_spec (ws := Cond.code yX1_hasBarrel cX1_hasBarrel 2 (some .boolean) :: rc_big) B.pre w (List.mem_cons_of_mem _ h)
  have hown : s.vm.findClass RX1 = some m.cls := findClass_of_methodNamed B.named
  have hlocks := B.notSynchronized
  clear B
  subst hsz
  have hS : va_S (rc_A sh s.heap.size) s.heap s.heap [] := va_S.rf
  have hl := lv_entry ([.ref a0, .int u1]) (n := 2) (Nat.le_of_ble_eq_true rfl)
  rw [lg_entry_eq]
  generalize (lg_sl ([.ref a0, .int u1]) ++ List.replicate (2 - (lg_sl ([.ref a0, .int u1])).length) Slot.unset).toArray = ls at hl ⊢
  have hl : lv_has ls 2 [(0, .ref a0), (1, .int u1)] := hl
  unfold f_X1_hasBarrel at hm
  refine lv_iload_n hx hb dX1_hasBarrel_0 rfl (lv_at hl 1 rfl) ?_
  refine lv_if_lt (tgt := 16) hx hb dX1_hasBarrel_1 (by decide) (fun c_2 => ?_) (fun c_2 => ?_)
  · replace hm := rc_t hm c_2
    refine lv_iconst (v := 0) hx hb dX1_hasBarrel_16 (by decide) ?_
    exact rc_ezret hx hb hr hlocks hW hS (Nat.le_of_ble_eq_true rfl) (Nat.le_of_ble_eq_true rfl) rfl hm dX1_hasBarrel_17
  · replace hm := rc_f hm c_2
    refine lv_iload_n hx hb dX1_hasBarrel_4 rfl (lv_at hl 1 rfl) ?_
    refine lv_aload_n hx hb dX1_hasBarrel_5 rfl (lv_at hl 0 rfl) ?_
    refine rg_2_2 hx hb hts hown hK hW h0 tw_1_146 dX1_hasBarrel_6 ?_
    refine lv_icmp_ge (tgt := 16) hx hb dX1_hasBarrel_9 (by decide) (fun c_1 => ?_) (fun c_1 => ?_)
    · replace hm := rc_t hm c_1
      refine lv_iconst (v := 0) hx hb dX1_hasBarrel_16 (by decide) ?_
      exact rc_ezret hx hb hr hlocks hW hS (Nat.le_of_ble_eq_true rfl) (Nat.le_of_ble_eq_true rfl) rfl hm dX1_hasBarrel_17
    · replace hm := rc_f hm c_1
      refine lv_iconst (v := 1) hx hb dX1_hasBarrel_12 (by decide) ?_
      refine lv_goto (tgt := 17) hx hb dX1_hasBarrel_13 (by decide) ?_
      exact rc_ezret hx hb hr hlocks hW hS (Nat.le_of_ble_eq_true rfl) (Nat.le_of_ble_eq_true rfl) rfl hm dX1_hasBarrel_17
set_option maxHeartbeats 4000000 in
set_option maxRecDepth 100000 in
theorem k_X1_addBarrel (l : Launch) {Y : rc_Y} {sh : Nat → Nat} {rf : rc_F} (hT : rc_T Y sh rf) (a0 : Nat) (u1 : Int32) (h0 : sh a0 = 2) (sz : Nat) (σ σ' : rc_S) (r : Unit) (hm : f_X1_addBarrel rf a0 u1 σ = some (r, σ')) : Met l yX1_addBarrel (Cond.code yX1_addBarrel cX1_addBarrel 2 none :: rc_big) ({ frames := 1, cells := 0, slots := 0, locals := 20 } : Room) (rc_P Y sh rf σ sz [.ref a0, .int u1]) (va_Qv (fun (_ : Unit) => True) (fun _ t => rc_W Y sh rf σ' t.heap) (rc_A sh sz)) 0 0 (rc_A sh sz) := by
  refine Met.ofW (cc := cX1_addBarrel) (maxL := 2) (ret := none) (by decide +kernel) rfl ?_
  intro p e s m args below meth c s₁ B hml hv
  obtain ⟨rfl, hsz, hW, hK, hE⟩ := hv
  have hx := B.exec
  have hb := B.bytes
  have hr := B.returns
  have hts : ∀ w ∈ rc_big, w.before _ s = true := fun w h => atoms_spec (ws := Cond.code yX1_addBarrel cX1_addBarrel 2 none :: rc_big) B.pre w (List.mem_cons_of_mem _ h)
  have hown : s.vm.findClass RX1 = some m.cls := findClass_of_methodNamed B.named
  have hlocks := B.notSynchronized
  clear B
  subst hsz
  have hS : va_S (rc_A sh s.heap.size) s.heap s.heap [] := va_S.rf
  have hl := lv_entry ([.ref a0, .int u1]) (n := 2) (Nat.le_of_ble_eq_true rfl)
  rw [lg_entry_eq]
  generalize (lg_sl ([.ref a0, .int u1]) ++ List.replicate (2 - (lg_sl ([.ref a0, .int u1])).length) Slot.unset).toArray = ls at hl ⊢
  have hl : lv_has ls 2 [(0, .ref a0), (1, .int u1)] := hl
  unfold f_X1_addBarrel at hm
  refine lv_aload_n hx hb dX1_addBarrel_0 rfl (lv_at hl 0 rfl) ?_
  refine rg_2_1 hx hb hts hown hK hW h0 tw_1_143 dX1_addBarrel_1 ?_
  refine lv_aload_n hx hb dX1_addBarrel_4 rfl (lv_at hl 0 rfl) ?_
  refine rg_2_2 hx hb hts hown hK hW h0 tw_1_146 dX1_addBarrel_5 ?_
  have hi_1 := (rc_ix hm).1
  replace hm := (rc_ix hm).2
  refine rc_aald hx hb hK hW (rc_t_2_1 hT h0) (by decide) rfl 4 rfl hi_1 dX1_addBarrel_8 ?_
  obtain ⟨w_2, σ_2, hc_2, hm0⟩ := rc_bd_inv hm
  clear hm
  refine rc_cv hS (va_runV (As := []) (rest := []) ⟨hx, hb, hml, hown, hts⟩ (k_X0_makeEmpty l hT (rf (rf a0 1) (σ a0 2).toNatClampNeg) (rc_t_25 hT (rc_t_2_1 hT h0) hi_1) s.heap.size _ _ _ hc_2) (cwV 0 hts (rc_gV tw_3_188 tw_3_189 tw_3_190 tw_1_5 tw_3_191) rfl rfl rfl (by decide +kernel) ⟨Nat.le_of_ble_eq_true rfl, Nat.le_of_ble_eq_true rfl⟩) (rc_preV hT hW hK hE hS (rc_t_25 hT (rc_t_2_1 hT h0) hi_1) (by decide) rfl (q := (RX0, TX0, 6)) rfl []) rfl rfl hl.1 rfl (lv_room (Nat.le_of_ble_eq_true rfl)) dX1_addBarrel_9 ⟨Nat.le_of_ble_eq_true rfl, Nat.le_of_ble_eq_true rfl⟩) (fun H locs hW hS => ?_)
  have hm := hm0
  clear hm0 hc_2
  refine lv_aload_n hx hb dX1_addBarrel_12 rfl (lv_at hl 0 rfl) ?_
  refine rg_2_1 hx hb hts hown hK hW h0 tw_1_143 dX1_addBarrel_13 ?_
  refine lv_aload_n hx hb dX1_addBarrel_16 rfl (lv_at hl 0 rfl) ?_
  refine rg_2_2 hx hb hts hown hK hW h0 tw_1_146 dX1_addBarrel_17 ?_
  have hi_3 := (rc_ix hm).1
  replace hm := (rc_ix hm).2
  refine rc_aald hx hb hK hW (rc_t_2_1 hT h0) (by decide) rfl 4 rfl hi_3 dX1_addBarrel_20 ?_
  refine lv_iload_n hx hb dX1_addBarrel_21 rfl (lv_at hl 1 rfl) ?_
  refine rp_1_0 hx hb hts hown hK hW hS (rc_t_25 hT (rc_t_2_1 hT h0) hi_3) tw_1_87 dX1_addBarrel_22 (fun σ_4 H locs eσ hW hS => ?_)
  replace hm := rc_lt_at hm eσ
  clear eσ
  refine lv_aload_n hx hb dX1_addBarrel_25 rfl (lv_at hl 0 rfl) ?_
  refine lv_dup hx hb dX1_addBarrel_26 rfl ?_
  refine rg_2_2 hx hb hts hown hK hW h0 tw_1_146 dX1_addBarrel_27 ?_
  refine lv_iconst (v := 1) hx hb dX1_addBarrel_30 (by decide) ?_
  refine lv_iadd hx hb dX1_addBarrel_31 ?_
  refine rp_2_2 hx hb hts hown hK hW hS h0 tw_1_146 dX1_addBarrel_32 (fun σ_5 H locs eσ hW hS => ?_)
  replace hm := rc_lt_at hm eσ
  clear eσ
  exact rc_evret hx hb hr hlocks hW hS (Nat.le_of_ble_eq_true rfl) (Nat.le_of_ble_eq_true rfl) hm dX1_addBarrel_35
set_option maxHeartbeats 4000000 in
set_option maxRecDepth 100000 in
theorem k_X1_barrelsUnder (l : Launch) {Y : rc_Y} {sh : Nat → Nat} {rf : rc_F} (hT : rc_T Y sh rf) (a0 : Nat) (u1 : Int32) (h0 : sh a0 = 2) (sz : Nat) (σ σ' : rc_S) (r : Int32) (hm : f_X1_barrelsUnder rf a0 u1 σ = some (r, σ')) : Met l yX1_barrelsUnder (Cond.code yX1_barrelsUnder cX1_barrelsUnder 4 (some .int) :: rc_big) ({ frames := 0, cells := 0, slots := 0, locals := 0 } : Room) (rc_P Y sh rf σ sz [.ref a0, .int u1]) (va_Qi (fun (r' : Int32) (_ : Unit) => r' = r) (fun _ t => rc_W Y sh rf σ' t.heap) (rc_A sh sz)) 0 0 (rc_A sh sz) := by
  refine Met.ofW (cc := cX1_barrelsUnder) (maxL := 4) (ret := (some .int)) (by decide +kernel) rfl ?_
  intro p e s m args below meth c s₁ B hml hv
  obtain ⟨rfl, hsz, hW, hK, hE⟩ := hv
  have hx := B.exec
  have hb := B.bytes
  have hr := B.returns
  have hts : ∀ w ∈ rc_big, w.before _ s = true := fun w h => atoms_spec (ws := Cond.code yX1_barrelsUnder cX1_barrelsUnder 4 (some .int) :: rc_big) B.pre w (List.mem_cons_of_mem _ h)
  have hown : s.vm.findClass RX1 = some m.cls := findClass_of_methodNamed B.named
  have hlocks := B.notSynchronized
  clear B
  subst hsz
  have hS : va_S (rc_A sh s.heap.size) s.heap s.heap [] := va_S.rf
  have hl := lv_entry ([.ref a0, .int u1]) (n := 4) (Nat.le_of_ble_eq_true rfl)
  rw [lg_entry_eq]
  generalize (lg_sl ([.ref a0, .int u1]) ++ List.replicate (4 - (lg_sl ([.ref a0, .int u1])).length) Slot.unset).toArray = ls at hl ⊢
  have hl : lv_has ls 4 [(0, .ref a0), (1, .int u1)] := hl
  have lp_4 : ∀ (v1 : Int32) (K : Int32 → Int32 → rc_S → Option (Int32 × rc_S)) (hKK : ∀ (v2 v3 : Int32) (σ : rc_S) (H : Heap) (locs : List Loc) (ls : Array Slot), K v2 v3 σ = some (r, σ') → rc_W Y sh rf σ H → va_S (rc_A sh s.heap.size) s.heap H locs → lv_has ls 4 [(2, .int v2)] → W p l e (headSpec (Cond.code yX1_barrelsUnder cX1_barrelsUnder 4 (some .int) :: rc_big) ({ frames := 0, cells := 0, slots := 0, locals := 0 } : Room)).room s m (([.ref a0, .int u1] : List Value).toArray) below meth c H locs 0 0 (MQ below (va_Qi (fun (r' : Int32) (_ : Unit) => r' = r) (fun _ t => rc_W Y sh rf σ' t.heap) (rc_A sh s.heap.size)) ([.ref a0, .int u1] : List Value).toArray s 0 0 (rc_A sh s.heap.size)) (F0 m 39 ls [])) (n : Nat) (v2 v3 : Int32) (σ : rc_S) (H : Heap) (locs : List Loc) (ls : Array Slot), f_X1_barrelsUnder_4 rf a0 v1 K n v2 v3 σ = some (r, σ') → rc_W Y sh rf σ H → va_S (rc_A sh s.heap.size) s.heap H locs → lv_has ls 4 [(0, .ref a0), (1, .int v1), (2, .int v2), (3, .int v3)] → W p l e (headSpec (Cond.code yX1_barrelsUnder cX1_barrelsUnder 4 (some .int) :: rc_big) ({ frames := 0, cells := 0, slots := 0, locals := 0 } : Room)).room s m (([.ref a0, .int u1] : List Value).toArray) below meth c H locs 0 0 (MQ below (va_Qi (fun (r' : Int32) (_ : Unit) => r' = r) (fun _ t => rc_W Y sh rf σ' t.heap) (rc_A sh s.heap.size)) ([.ref a0, .int u1] : List Value).toArray s 0 0 (rc_A sh s.heap.size)) (F0 m 4 ls []) := by
    intro v1 K hKK n
    induction n with
    | zero =>
      intro v2 v3 σ H locs ls hm
      rw [f_X1_barrelsUnder_4] at hm
      cases hm
    | succ n ih =>
      intro v2 v3 σ H locs ls hm hW hS hl
      rw [f_X1_barrelsUnder_4] at hm
      refine lv_iload_n hx hb dX1_barrelsUnder_4 rfl (lv_at hl 3 rfl) ?_
      refine lv_aload_n hx hb dX1_barrelsUnder_5 rfl (lv_at hl 0 rfl) ?_
      refine rg_2_2 hx hb hts hown hK hW h0 tw_1_146 dX1_barrelsUnder_6 ?_
      refine lv_icmp_ge (tgt := 39) hx hb dX1_barrelsUnder_9 (by decide) (fun c_7 => ?_) (fun c_7 => ?_)
      · replace hm := rc_t hm c_7
        exact hKK v2 v3 σ _ _ _ hm hW hS (lv_sub hl [2] rfl)
      · replace hm := rc_f hm c_7
        refine lv_iload_n hx hb dX1_barrelsUnder_12 rfl (lv_at hl 2 rfl) ?_
        refine lv_aload_n hx hb dX1_barrelsUnder_13 rfl (lv_at hl 0 rfl) ?_
        refine rg_2_1 hx hb hts hown hK hW h0 tw_1_143 dX1_barrelsUnder_14 ?_
        refine lv_iload_n hx hb dX1_barrelsUnder_17 rfl (lv_at hl 3 rfl) ?_
        have hi_1 := (rc_ix hm).1
        replace hm := (rc_ix hm).2
        refine rc_aald hx hb hK hW (rc_t_2_1 hT h0) (by decide) rfl 4 rfl hi_1 dX1_barrelsUnder_18 ?_
        refine rg_1_0 hx hb hts hown hK hW (rc_t_25 hT (rc_t_2_1 hT h0) hi_1) tw_1_87 dX1_barrelsUnder_19 ?_
        refine lv_iload_n hx hb dX1_barrelsUnder_22 rfl (lv_at hl 1 rfl) ?_
        refine lv_icmp_ne (tgt := 30) hx hb dX1_barrelsUnder_23 (by decide) (fun c_6 => ?_) (fun c_6 => ?_)
        · replace hm := rc_f hm c_6
          refine lv_iconst (v := 0) hx hb dX1_barrelsUnder_30 (by decide) ?_
          refine lv_iadd hx hb dX1_barrelsUnder_31 ?_
          refine lv_topi (fun v2_2 ev => ?_)
          replace hm := rc_lt_at hm ev
          clear ev
          refine lv_istore_n (lv' := [(2, .int v2_2), (0, .ref a0), (1, .int v1), (3, .int v3)]) hx hb dX1_barrelsUnder_32 rfl hl (by decide) rfl (fun ls hl => ?_)
          obtain ⟨v3_3, ev⟩ : ∃ y : Int32, y = (v3 + 1) := ⟨_, rfl⟩
          replace hm := rc_lt_at hm ev
          refine lv_iinc (v := v3_3) (lv' := [(3, .int v3_3), (2, .int v2_2), (0, .ref a0), (1, .int v1)]) hx hb dX1_barrelsUnder_33 hl (k := 3) rfl (by rw [ev]; rfl) (by decide) rfl (fun ls hl => ?_)
          clear ev
          refine lv_goto (tgt := 4) hx hb dX1_barrelsUnder_36 (by decide) ?_
          exact ih v2_2 v3_3 σ _ _ _ hm hW hS (lv_sub hl [2, 3, 1, 0] rfl)
        · replace hm := rc_t hm c_6
          refine lv_iconst (v := 1) hx hb dX1_barrelsUnder_26 (by decide) ?_
          refine lv_goto (tgt := 31) hx hb dX1_barrelsUnder_27 (by decide) ?_
          refine lv_iadd hx hb dX1_barrelsUnder_31 ?_
          refine lv_topi (fun v2_4 ev => ?_)
          replace hm := rc_lt_at hm ev
          clear ev
          refine lv_istore_n (lv' := [(2, .int v2_4), (0, .ref a0), (1, .int v1), (3, .int v3)]) hx hb dX1_barrelsUnder_32 rfl hl (by decide) rfl (fun ls hl => ?_)
          obtain ⟨v3_5, ev⟩ : ∃ y : Int32, y = (v3 + 1) := ⟨_, rfl⟩
          replace hm := rc_lt_at hm ev
          refine lv_iinc (v := v3_5) (lv' := [(3, .int v3_5), (2, .int v2_4), (0, .ref a0), (1, .int v1)]) hx hb dX1_barrelsUnder_33 hl (k := 3) rfl (by rw [ev]; rfl) (by decide) rfl (fun ls hl => ?_)
          clear ev
          refine lv_goto (tgt := 4) hx hb dX1_barrelsUnder_36 (by decide) ?_
          exact ih v2_4 v3_5 σ _ _ _ hm hW hS (lv_sub hl [2, 3, 1, 0] rfl)
  unfold f_X1_barrelsUnder at hm
  refine lv_iconst (v := 0) hx hb dX1_barrelsUnder_0 (by decide) ?_
  refine lv_istore_n (lv' := [(2, .int (0 : Int32)), (0, .ref a0), (1, .int u1)]) hx hb dX1_barrelsUnder_1 rfl hl (by decide) rfl (fun ls hl => ?_)
  refine lv_iconst (v := 0) hx hb dX1_barrelsUnder_2 (by decide) ?_
  refine lv_istore_n (lv' := [(3, .int (0 : Int32)), (2, .int (0 : Int32)), (0, .ref a0), (1, .int u1)]) hx hb dX1_barrelsUnder_3 rfl hl (by decide) rfl (fun ls hl => ?_)
  refine lp_4 u1 _ (fun v2_8 v3_9 σ_10 H locs ls hm hW hS hl => ?_) rc_fu (0 : Int32) (0 : Int32) σ _ _ _ hm hW hS (lv_sub hl [2, 3, 1, 0] rfl)
  refine lv_iload_n hx hb dX1_barrelsUnder_39 rfl (lv_at hl 0 rfl) ?_
  exact rc_eiret hx hb hr hlocks hW hS (Nat.le_of_ble_eq_true rfl) (Nat.le_of_ble_eq_true rfl) hm dX1_barrelsUnder_40
set_option maxHeartbeats 4000000 in
set_option maxRecDepth 100000 in
theorem k_X1_emptyUnder (l : Launch) {Y : rc_Y} {sh : Nat → Nat} {rf : rc_F} (hT : rc_T Y sh rf) (a0 : Nat) (u1 : Int32) (h0 : sh a0 = 2) (sz : Nat) (σ σ' : rc_S) (r : Int32) (hm : f_X1_emptyUnder rf a0 u1 σ = some (r, σ')) : Met l yX1_emptyUnder (Cond.code yX1_emptyUnder cX1_emptyUnder 4 (some .int) :: rc_big) ({ frames := 1, cells := 0, slots := 0, locals := 20 } : Room) (rc_P Y sh rf σ sz [.ref a0, .int u1]) (va_Qi (fun (r' : Int32) (_ : Unit) => r' = r) (fun _ t => rc_W Y sh rf σ' t.heap) (rc_A sh sz)) 0 0 (rc_A sh sz) := by
  refine Met.ofW (cc := cX1_emptyUnder) (maxL := 4) (ret := (some .int)) (by decide +kernel) rfl ?_
  intro p e s m args below meth c s₁ B hml hv
  obtain ⟨rfl, hsz, hW, hK, hE⟩ := hv
  have hx := B.exec
  have hb := B.bytes
  have hr := B.returns
  have hts : ∀ w ∈ rc_big, w.before _ s = true := fun w h => atoms_spec (ws := Cond.code yX1_emptyUnder cX1_emptyUnder 4 (some .int) :: rc_big) B.pre w (List.mem_cons_of_mem _ h)
  have hown : s.vm.findClass RX1 = some m.cls := findClass_of_methodNamed B.named
  have hlocks := B.notSynchronized
  clear B
  subst hsz
  have hS : va_S (rc_A sh s.heap.size) s.heap s.heap [] := va_S.rf
  have hl := lv_entry ([.ref a0, .int u1]) (n := 4) (Nat.le_of_ble_eq_true rfl)
  rw [lg_entry_eq]
  generalize (lg_sl ([.ref a0, .int u1]) ++ List.replicate (4 - (lg_sl ([.ref a0, .int u1])).length) Slot.unset).toArray = ls at hl ⊢
  have hl : lv_has ls 4 [(0, .ref a0), (1, .int u1)] := hl
  have lp_4 : ∀ (v1 : Int32) (K : Int32 → Int32 → rc_S → Option (Int32 × rc_S)) (hKK : ∀ (v2 v3 : Int32) (σ : rc_S) (H : Heap) (locs : List Loc) (ls : Array Slot), K v2 v3 σ = some (r, σ') → rc_W Y sh rf σ H → va_S (rc_A sh s.heap.size) s.heap H locs → lv_has ls 4 [(2, .int v2)] → W p l e (headSpec (Cond.code yX1_emptyUnder cX1_emptyUnder 4 (some .int) :: rc_big) ({ frames := 1, cells := 0, slots := 0, locals := 20 } : Room)).room s m (([.ref a0, .int u1] : List Value).toArray) below meth c H locs 0 0 (MQ below (va_Qi (fun (r' : Int32) (_ : Unit) => r' = r) (fun _ t => rc_W Y sh rf σ' t.heap) (rc_A sh s.heap.size)) ([.ref a0, .int u1] : List Value).toArray s 0 0 (rc_A sh s.heap.size)) (F0 m 51 ls [])) (n : Nat) (v2 v3 : Int32) (σ : rc_S) (H : Heap) (locs : List Loc) (ls : Array Slot), f_X1_emptyUnder_4 rf a0 v1 K n v2 v3 σ = some (r, σ') → rc_W Y sh rf σ H → va_S (rc_A sh s.heap.size) s.heap H locs → lv_has ls 4 [(0, .ref a0), (1, .int v1), (2, .int v2), (3, .int v3)] → W p l e (headSpec (Cond.code yX1_emptyUnder cX1_emptyUnder 4 (some .int) :: rc_big) ({ frames := 1, cells := 0, slots := 0, locals := 20 } : Room)).room s m (([.ref a0, .int u1] : List Value).toArray) below meth c H locs 0 0 (MQ below (va_Qi (fun (r' : Int32) (_ : Unit) => r' = r) (fun _ t => rc_W Y sh rf σ' t.heap) (rc_A sh s.heap.size)) ([.ref a0, .int u1] : List Value).toArray s 0 0 (rc_A sh s.heap.size)) (F0 m 4 ls []) := by
    intro v1 K hKK n
    induction n with
    | zero =>
      intro v2 v3 σ H locs ls hm
      rw [f_X1_emptyUnder_4] at hm
      cases hm
    | succ n ih =>
      intro v2 v3 σ H locs ls hm hW hS hl
      rw [f_X1_emptyUnder_4] at hm
      refine lv_iload_n hx hb dX1_emptyUnder_4 rfl (lv_at hl 3 rfl) ?_
      refine lv_aload_n hx hb dX1_emptyUnder_5 rfl (lv_at hl 0 rfl) ?_
      refine rg_2_2 hx hb hts hown hK hW h0 tw_1_146 dX1_emptyUnder_6 ?_
      refine lv_icmp_ge (tgt := 51) hx hb dX1_emptyUnder_9 (by decide) (fun c_12 => ?_) (fun c_12 => ?_)
      · replace hm := rc_t hm c_12
        exact hKK v2 v3 σ _ _ _ hm hW hS (lv_sub hl [2] rfl)
      · replace hm := rc_f hm c_12
        refine lv_iload_n hx hb dX1_emptyUnder_12 rfl (lv_at hl 2 rfl) ?_
        refine lv_aload_n hx hb dX1_emptyUnder_13 rfl (lv_at hl 0 rfl) ?_
        refine rg_2_1 hx hb hts hown hK hW h0 tw_1_143 dX1_emptyUnder_14 ?_
        refine lv_iload_n hx hb dX1_emptyUnder_17 rfl (lv_at hl 3 rfl) ?_
        have hi_1 := (rc_ix hm).1
        replace hm := (rc_ix hm).2
        refine rc_aald hx hb hK hW (rc_t_2_1 hT h0) (by decide) rfl 4 rfl hi_1 dX1_emptyUnder_18 ?_
        refine rg_1_0 hx hb hts hown hK hW (rc_t_25 hT (rc_t_2_1 hT h0) hi_1) tw_1_87 dX1_emptyUnder_19 ?_
        refine lv_iload_n hx hb dX1_emptyUnder_22 rfl (lv_at hl 1 rfl) ?_
        refine lv_icmp_ne (tgt := 42) hx hb dX1_emptyUnder_23 (by decide) (fun c_11 => ?_) (fun c_11 => ?_)
        · replace hm := rc_f hm c_11
          refine lv_iconst (v := 0) hx hb dX1_emptyUnder_42 (by decide) ?_
          refine lv_iadd hx hb dX1_emptyUnder_43 ?_
          refine lv_topi (fun v2_2 ev => ?_)
          replace hm := rc_lt_at hm ev
          clear ev
          refine lv_istore_n (lv' := [(2, .int v2_2), (0, .ref a0), (1, .int v1), (3, .int v3)]) hx hb dX1_emptyUnder_44 rfl hl (by decide) rfl (fun ls hl => ?_)
          obtain ⟨v3_3, ev⟩ : ∃ y : Int32, y = (v3 + 1) := ⟨_, rfl⟩
          replace hm := rc_lt_at hm ev
          refine lv_iinc (v := v3_3) (lv' := [(3, .int v3_3), (2, .int v2_2), (0, .ref a0), (1, .int v1)]) hx hb dX1_emptyUnder_45 hl (k := 3) rfl (by rw [ev]; rfl) (by decide) rfl (fun ls hl => ?_)
          clear ev
          refine lv_goto (tgt := 4) hx hb dX1_emptyUnder_48 (by decide) ?_
          exact ih v2_2 v3_3 σ _ _ _ hm hW hS (lv_sub hl [2, 3, 1, 0] rfl)
        · replace hm := rc_t hm c_11
          refine lv_aload_n hx hb dX1_emptyUnder_26 rfl (lv_at hl 0 rfl) ?_
          refine rg_2_1 hx hb hts hown hK hW h0 tw_1_143 dX1_emptyUnder_27 ?_
          refine lv_iload_n hx hb dX1_emptyUnder_30 rfl (lv_at hl 3 rfl) ?_
          have hi_4 := (rc_ix hm).1
          replace hm := (rc_ix hm).2
          refine rc_aald hx hb hK hW (rc_t_2_1 hT h0) (by decide) rfl 4 rfl hi_4 dX1_emptyUnder_31 ?_
          obtain ⟨w_5, σ_5, hc_5, hm0⟩ := rc_bd_inv hm
          clear hm
          refine rc_ci hS (va_runV (As := []) (rest := [.int v2]) ⟨hx, hb, hml, hown, hts⟩ (k_X0_isEmpty l hT (rf (rf a0 1) v3.toNatClampNeg) (rc_t_25 hT (rc_t_2_1 hT h0) hi_4) H.size _ _ _ hc_5) (cwV 0 hts (rc_gV tw_3_105 tw_2_239 tw_3_0 tw_1_5 tw_3_1) rfl rfl rfl (by decide +kernel) ⟨Nat.le_of_ble_eq_true rfl, Nat.le_of_ble_eq_true rfl⟩) (rc_preV hT hW hK hE hS (rc_t_25 hT (rc_t_2_1 hT h0) hi_4) (by decide) rfl (q := (RX0, TX0, 6)) rfl []) rfl rfl hl.1 rfl (lv_room (Nat.le_of_ble_eq_true rfl)) dX1_emptyUnder_32 ⟨Nat.le_of_ble_eq_true rfl, Nat.le_of_ble_eq_true rfl⟩) (fun H locs hW hS => ?_)
          have hm := hm0
          clear hm0 hc_5
          refine lv_if_eq (tgt := 42) hx hb dX1_emptyUnder_35 (by decide) (fun c_10 => ?_) (fun c_10 => ?_)
          · replace hm := rc_t hm c_10
            refine lv_iconst (v := 0) hx hb dX1_emptyUnder_42 (by decide) ?_
            refine lv_iadd hx hb dX1_emptyUnder_43 ?_
            refine lv_topi (fun v2_6 ev => ?_)
            replace hm := rc_lt_at hm ev
            clear ev
            refine lv_istore_n (lv' := [(2, .int v2_6), (0, .ref a0), (1, .int v1), (3, .int v3)]) hx hb dX1_emptyUnder_44 rfl hl (by decide) rfl (fun ls hl => ?_)
            obtain ⟨v3_7, ev⟩ : ∃ y : Int32, y = (v3 + 1) := ⟨_, rfl⟩
            replace hm := rc_lt_at hm ev
            refine lv_iinc (v := v3_7) (lv' := [(3, .int v3_7), (2, .int v2_6), (0, .ref a0), (1, .int v1)]) hx hb dX1_emptyUnder_45 hl (k := 3) rfl (by rw [ev]; rfl) (by decide) rfl (fun ls hl => ?_)
            clear ev
            refine lv_goto (tgt := 4) hx hb dX1_emptyUnder_48 (by decide) ?_
            exact ih v2_6 v3_7 σ_5 _ _ _ hm hW hS (lv_sub hl [2, 3, 1, 0] rfl)
          · replace hm := rc_f hm c_10
            refine lv_iconst (v := 1) hx hb dX1_emptyUnder_38 (by decide) ?_
            refine lv_goto (tgt := 43) hx hb dX1_emptyUnder_39 (by decide) ?_
            refine lv_iadd hx hb dX1_emptyUnder_43 ?_
            refine lv_topi (fun v2_8 ev => ?_)
            replace hm := rc_lt_at hm ev
            clear ev
            refine lv_istore_n (lv' := [(2, .int v2_8), (0, .ref a0), (1, .int v1), (3, .int v3)]) hx hb dX1_emptyUnder_44 rfl hl (by decide) rfl (fun ls hl => ?_)
            obtain ⟨v3_9, ev⟩ : ∃ y : Int32, y = (v3 + 1) := ⟨_, rfl⟩
            replace hm := rc_lt_at hm ev
            refine lv_iinc (v := v3_9) (lv' := [(3, .int v3_9), (2, .int v2_8), (0, .ref a0), (1, .int v1)]) hx hb dX1_emptyUnder_45 hl (k := 3) rfl (by rw [ev]; rfl) (by decide) rfl (fun ls hl => ?_)
            clear ev
            refine lv_goto (tgt := 4) hx hb dX1_emptyUnder_48 (by decide) ?_
            exact ih v2_8 v3_9 σ_5 _ _ _ hm hW hS (lv_sub hl [2, 3, 1, 0] rfl)
  unfold f_X1_emptyUnder at hm
  refine lv_iconst (v := 0) hx hb dX1_emptyUnder_0 (by decide) ?_
  refine lv_istore_n (lv' := [(2, .int (0 : Int32)), (0, .ref a0), (1, .int u1)]) hx hb dX1_emptyUnder_1 rfl hl (by decide) rfl (fun ls hl => ?_)
  refine lv_iconst (v := 0) hx hb dX1_emptyUnder_2 (by decide) ?_
  refine lv_istore_n (lv' := [(3, .int (0 : Int32)), (2, .int (0 : Int32)), (0, .ref a0), (1, .int u1)]) hx hb dX1_emptyUnder_3 rfl hl (by decide) rfl (fun ls hl => ?_)
  refine lp_4 u1 _ (fun v2_13 v3_14 σ_15 H locs ls hm hW hS hl => ?_) rc_fu (0 : Int32) (0 : Int32) σ _ _ _ hm hW hS (lv_sub hl [2, 3, 1, 0] rfl)
  refine lv_iload_n hx hb dX1_emptyUnder_51 rfl (lv_at hl 0 rfl) ?_
  exact rc_eiret hx hb hr hlocks hW hS (Nat.le_of_ble_eq_true rfl) (Nat.le_of_ble_eq_true rfl) hm dX1_emptyUnder_52
set_option maxHeartbeats 4000000 in
set_option maxRecDepth 100000 in
theorem k_X1_litresUnder (l : Launch) {Y : rc_Y} {sh : Nat → Nat} {rf : rc_F} (hT : rc_T Y sh rf) (a0 : Nat) (u1 : Int32) (h0 : sh a0 = 2) (sz : Nat) (σ σ' : rc_S) (r : Int32) (hm : f_X1_litresUnder rf a0 u1 σ = some (r, σ')) : Met l yX1_litresUnder (Cond.code yX1_litresUnder cX1_litresUnder 4 (some .int) :: rc_big) ({ frames := 0, cells := 0, slots := 0, locals := 0 } : Room) (rc_P Y sh rf σ sz [.ref a0, .int u1]) (va_Qi (fun (r' : Int32) (_ : Unit) => r' = r) (fun _ t => rc_W Y sh rf σ' t.heap) (rc_A sh sz)) 0 0 (rc_A sh sz) := by
  refine Met.ofW (cc := cX1_litresUnder) (maxL := 4) (ret := (some .int)) (by decide +kernel) rfl ?_
  intro p e s m args below meth c s₁ B hml hv
  obtain ⟨rfl, hsz, hW, hK, hE⟩ := hv
  have hx := B.exec
  have hb := B.bytes
  have hr := B.returns
  have hts : ∀ w ∈ rc_big, w.before _ s = true := fun w h => atoms_spec (ws := Cond.code yX1_litresUnder cX1_litresUnder 4 (some .int) :: rc_big) B.pre w (List.mem_cons_of_mem _ h)
  have hown : s.vm.findClass RX1 = some m.cls := findClass_of_methodNamed B.named
  have hlocks := B.notSynchronized
  clear B
  subst hsz
  have hS : va_S (rc_A sh s.heap.size) s.heap s.heap [] := va_S.rf
  have hl := lv_entry ([.ref a0, .int u1]) (n := 4) (Nat.le_of_ble_eq_true rfl)
  rw [lg_entry_eq]
  generalize (lg_sl ([.ref a0, .int u1]) ++ List.replicate (4 - (lg_sl ([.ref a0, .int u1])).length) Slot.unset).toArray = ls at hl ⊢
  have hl : lv_has ls 4 [(0, .ref a0), (1, .int u1)] := hl
  have lp_4 : ∀ (v1 : Int32) (K : Int32 → Int32 → rc_S → Option (Int32 × rc_S)) (hKK : ∀ (v2 v3 : Int32) (σ : rc_S) (H : Heap) (locs : List Loc) (ls : Array Slot), K v2 v3 σ = some (r, σ') → rc_W Y sh rf σ H → va_S (rc_A sh s.heap.size) s.heap H locs → lv_has ls 4 [(2, .int v2)] → W p l e (headSpec (Cond.code yX1_litresUnder cX1_litresUnder 4 (some .int) :: rc_big) ({ frames := 0, cells := 0, slots := 0, locals := 0 } : Room)).room s m (([.ref a0, .int u1] : List Value).toArray) below meth c H locs 0 0 (MQ below (va_Qi (fun (r' : Int32) (_ : Unit) => r' = r) (fun _ t => rc_W Y sh rf σ' t.heap) (rc_A sh s.heap.size)) ([.ref a0, .int u1] : List Value).toArray s 0 0 (rc_A sh s.heap.size)) (F0 m 47 ls [])) (n : Nat) (v2 v3 : Int32) (σ : rc_S) (H : Heap) (locs : List Loc) (ls : Array Slot), f_X1_litresUnder_4 rf a0 v1 K n v2 v3 σ = some (r, σ') → rc_W Y sh rf σ H → va_S (rc_A sh s.heap.size) s.heap H locs → lv_has ls 4 [(0, .ref a0), (1, .int v1), (2, .int v2), (3, .int v3)] → W p l e (headSpec (Cond.code yX1_litresUnder cX1_litresUnder 4 (some .int) :: rc_big) ({ frames := 0, cells := 0, slots := 0, locals := 0 } : Room)).room s m (([.ref a0, .int u1] : List Value).toArray) below meth c H locs 0 0 (MQ below (va_Qi (fun (r' : Int32) (_ : Unit) => r' = r) (fun _ t => rc_W Y sh rf σ' t.heap) (rc_A sh s.heap.size)) ([.ref a0, .int u1] : List Value).toArray s 0 0 (rc_A sh s.heap.size)) (F0 m 4 ls []) := by
    intro v1 K hKK n
    induction n with
    | zero =>
      intro v2 v3 σ H locs ls hm
      rw [f_X1_litresUnder_4] at hm
      cases hm
    | succ n ih =>
      intro v2 v3 σ H locs ls hm hW hS hl
      rw [f_X1_litresUnder_4] at hm
      refine lv_iload_n hx hb dX1_litresUnder_4 rfl (lv_at hl 3 rfl) ?_
      refine lv_aload_n hx hb dX1_litresUnder_5 rfl (lv_at hl 0 rfl) ?_
      refine rg_2_2 hx hb hts hown hK hW h0 tw_1_146 dX1_litresUnder_6 ?_
      refine lv_icmp_ge (tgt := 47) hx hb dX1_litresUnder_9 (by decide) (fun c_8 => ?_) (fun c_8 => ?_)
      · replace hm := rc_t hm c_8
        exact hKK v2 v3 σ _ _ _ hm hW hS (lv_sub hl [2] rfl)
      · replace hm := rc_f hm c_8
        refine lv_iload_n hx hb dX1_litresUnder_12 rfl (lv_at hl 2 rfl) ?_
        refine lv_aload_n hx hb dX1_litresUnder_13 rfl (lv_at hl 0 rfl) ?_
        refine rg_2_1 hx hb hts hown hK hW h0 tw_1_143 dX1_litresUnder_14 ?_
        refine lv_iload_n hx hb dX1_litresUnder_17 rfl (lv_at hl 3 rfl) ?_
        have hi_1 := (rc_ix hm).1
        replace hm := (rc_ix hm).2
        refine rc_aald hx hb hK hW (rc_t_2_1 hT h0) (by decide) rfl 4 rfl hi_1 dX1_litresUnder_18 ?_
        refine rg_1_0 hx hb hts hown hK hW (rc_t_25 hT (rc_t_2_1 hT h0) hi_1) tw_1_87 dX1_litresUnder_19 ?_
        refine lv_iload_n hx hb dX1_litresUnder_22 rfl (lv_at hl 1 rfl) ?_
        refine lv_icmp_ne (tgt := 38) hx hb dX1_litresUnder_23 (by decide) (fun c_7 => ?_) (fun c_7 => ?_)
        · replace hm := rc_f hm c_7
          refine lv_iconst (v := 0) hx hb dX1_litresUnder_38 (by decide) ?_
          refine lv_iadd hx hb dX1_litresUnder_39 ?_
          refine lv_topi (fun v2_2 ev => ?_)
          replace hm := rc_lt_at hm ev
          clear ev
          refine lv_istore_n (lv' := [(2, .int v2_2), (0, .ref a0), (1, .int v1), (3, .int v3)]) hx hb dX1_litresUnder_40 rfl hl (by decide) rfl (fun ls hl => ?_)
          obtain ⟨v3_3, ev⟩ : ∃ y : Int32, y = (v3 + 1) := ⟨_, rfl⟩
          replace hm := rc_lt_at hm ev
          refine lv_iinc (v := v3_3) (lv' := [(3, .int v3_3), (2, .int v2_2), (0, .ref a0), (1, .int v1)]) hx hb dX1_litresUnder_41 hl (k := 3) rfl (by rw [ev]; rfl) (by decide) rfl (fun ls hl => ?_)
          clear ev
          refine lv_goto (tgt := 4) hx hb dX1_litresUnder_44 (by decide) ?_
          exact ih v2_2 v3_3 σ _ _ _ hm hW hS (lv_sub hl [2, 3, 1, 0] rfl)
        · replace hm := rc_t hm c_7
          refine lv_aload_n hx hb dX1_litresUnder_26 rfl (lv_at hl 0 rfl) ?_
          refine rg_2_1 hx hb hts hown hK hW h0 tw_1_143 dX1_litresUnder_27 ?_
          refine lv_iload_n hx hb dX1_litresUnder_30 rfl (lv_at hl 3 rfl) ?_
          have hi_4 := (rc_ix hm).1
          replace hm := (rc_ix hm).2
          refine rc_aald hx hb hK hW (rc_t_2_1 hT h0) (by decide) rfl 4 rfl hi_4 dX1_litresUnder_31 ?_
          refine rg_1_1 hx hb hts hown hK hW (rc_t_25 hT (rc_t_2_1 hT h0) hi_4) tw_1_91 dX1_litresUnder_32 ?_
          refine lv_goto (tgt := 39) hx hb dX1_litresUnder_35 (by decide) ?_
          refine lv_iadd hx hb dX1_litresUnder_39 ?_
          refine lv_topi (fun v2_5 ev => ?_)
          replace hm := rc_lt_at hm ev
          clear ev
          refine lv_istore_n (lv' := [(2, .int v2_5), (0, .ref a0), (1, .int v1), (3, .int v3)]) hx hb dX1_litresUnder_40 rfl hl (by decide) rfl (fun ls hl => ?_)
          obtain ⟨v3_6, ev⟩ : ∃ y : Int32, y = (v3 + 1) := ⟨_, rfl⟩
          replace hm := rc_lt_at hm ev
          refine lv_iinc (v := v3_6) (lv' := [(3, .int v3_6), (2, .int v2_5), (0, .ref a0), (1, .int v1)]) hx hb dX1_litresUnder_41 hl (k := 3) rfl (by rw [ev]; rfl) (by decide) rfl (fun ls hl => ?_)
          clear ev
          refine lv_goto (tgt := 4) hx hb dX1_litresUnder_44 (by decide) ?_
          exact ih v2_5 v3_6 σ _ _ _ hm hW hS (lv_sub hl [2, 3, 1, 0] rfl)
  unfold f_X1_litresUnder at hm
  refine lv_iconst (v := 0) hx hb dX1_litresUnder_0 (by decide) ?_
  refine lv_istore_n (lv' := [(2, .int (0 : Int32)), (0, .ref a0), (1, .int u1)]) hx hb dX1_litresUnder_1 rfl hl (by decide) rfl (fun ls hl => ?_)
  refine lv_iconst (v := 0) hx hb dX1_litresUnder_2 (by decide) ?_
  refine lv_istore_n (lv' := [(3, .int (0 : Int32)), (2, .int (0 : Int32)), (0, .ref a0), (1, .int u1)]) hx hb dX1_litresUnder_3 rfl hl (by decide) rfl (fun ls hl => ?_)
  refine lp_4 u1 _ (fun v2_9 v3_10 σ_11 H locs ls hm hW hS hl => ?_) rc_fu (0 : Int32) (0 : Int32) σ _ _ _ hm hW hS (lv_sub hl [2, 3, 1, 0] rfl)
  refine lv_iload_n hx hb dX1_litresUnder_47 rfl (lv_at hl 0 rfl) ?_
  exact rc_eiret hx hb hr hlocks hW hS (Nat.le_of_ble_eq_true rfl) (Nat.le_of_ble_eq_true rfl) hm dX1_litresUnder_48
set_option maxHeartbeats 4000000 in
set_option maxRecDepth 100000 in
theorem k_X1_litresInBarrels (l : Launch) {Y : rc_Y} {sh : Nat → Nat} {rf : rc_F} (hT : rc_T Y sh rf) (a0 : Nat) (h0 : sh a0 = 2) (sz : Nat) (σ σ' : rc_S) (r : Int32) (hm : f_X1_litresInBarrels rf a0 σ = some (r, σ')) : Met l yX1_litresInBarrels (Cond.code yX1_litresInBarrels cX1_litresInBarrels 3 (some .int) :: rc_big) ({ frames := 0, cells := 0, slots := 0, locals := 0 } : Room) (rc_P Y sh rf σ sz [.ref a0]) (va_Qi (fun (r' : Int32) (_ : Unit) => r' = r) (fun _ t => rc_W Y sh rf σ' t.heap) (rc_A sh sz)) 0 0 (rc_A sh sz) := by
  refine Met.ofW (cc := cX1_litresInBarrels) (maxL := 3) (ret := (some .int)) (by decide +kernel) rfl ?_
  intro p e s m args below meth c s₁ B hml hv
  obtain ⟨rfl, hsz, hW, hK, hE⟩ := hv
  have hx := B.exec
  have hb := B.bytes
  have hr := B.returns
  have hts : ∀ w ∈ rc_big, w.before _ s = true := fun w h => atoms_spec (ws := Cond.code yX1_litresInBarrels cX1_litresInBarrels 3 (some .int) :: rc_big) B.pre w (List.mem_cons_of_mem _ h)
  have hown : s.vm.findClass RX1 = some m.cls := findClass_of_methodNamed B.named
  have hlocks := B.notSynchronized
  clear B
  subst hsz
  have hS : va_S (rc_A sh s.heap.size) s.heap s.heap [] := va_S.rf
  have hl := lv_entry ([.ref a0]) (n := 3) (Nat.le_of_ble_eq_true rfl)
  rw [lg_entry_eq]
  generalize (lg_sl ([.ref a0]) ++ List.replicate (3 - (lg_sl ([.ref a0])).length) Slot.unset).toArray = ls at hl ⊢
  have hl : lv_has ls 3 [(0, .ref a0)] := hl
  have lp_4 : ∀ (K : Int32 → Int32 → rc_S → Option (Int32 × rc_S)) (hKK : ∀ (v1 v2 : Int32) (σ : rc_S) (H : Heap) (locs : List Loc) (ls : Array Slot), K v1 v2 σ = some (r, σ') → rc_W Y sh rf σ H → va_S (rc_A sh s.heap.size) s.heap H locs → lv_has ls 3 [(1, .int v1)] → W p l e (headSpec (Cond.code yX1_litresInBarrels cX1_litresInBarrels 3 (some .int) :: rc_big) ({ frames := 0, cells := 0, slots := 0, locals := 0 } : Room)).room s m (([.ref a0] : List Value).toArray) below meth c H locs 0 0 (MQ below (va_Qi (fun (r' : Int32) (_ : Unit) => r' = r) (fun _ t => rc_W Y sh rf σ' t.heap) (rc_A sh s.heap.size)) ([.ref a0] : List Value).toArray s 0 0 (rc_A sh s.heap.size)) (F0 m 30 ls [])) (n : Nat) (v1 v2 : Int32) (σ : rc_S) (H : Heap) (locs : List Loc) (ls : Array Slot), f_X1_litresInBarrels_4 rf a0 K n v1 v2 σ = some (r, σ') → rc_W Y sh rf σ H → va_S (rc_A sh s.heap.size) s.heap H locs → lv_has ls 3 [(0, .ref a0), (1, .int v1), (2, .int v2)] → W p l e (headSpec (Cond.code yX1_litresInBarrels cX1_litresInBarrels 3 (some .int) :: rc_big) ({ frames := 0, cells := 0, slots := 0, locals := 0 } : Room)).room s m (([.ref a0] : List Value).toArray) below meth c H locs 0 0 (MQ below (va_Qi (fun (r' : Int32) (_ : Unit) => r' = r) (fun _ t => rc_W Y sh rf σ' t.heap) (rc_A sh s.heap.size)) ([.ref a0] : List Value).toArray s 0 0 (rc_A sh s.heap.size)) (F0 m 4 ls []) := by
    intro  K hKK n
    induction n with
    | zero =>
      intro v1 v2 σ H locs ls hm
      rw [f_X1_litresInBarrels_4] at hm
      cases hm
    | succ n ih =>
      intro v1 v2 σ H locs ls hm hW hS hl
      rw [f_X1_litresInBarrels_4] at hm
      refine lv_iload_n hx hb dX1_litresInBarrels_4 rfl (lv_at hl 2 rfl) ?_
      refine lv_aload_n hx hb dX1_litresInBarrels_5 rfl (lv_at hl 0 rfl) ?_
      refine rg_2_2 hx hb hts hown hK hW h0 tw_1_146 dX1_litresInBarrels_6 ?_
      refine lv_icmp_ge (tgt := 30) hx hb dX1_litresInBarrels_9 (by decide) (fun c_4 => ?_) (fun c_4 => ?_)
      · replace hm := rc_t hm c_4
        exact hKK v1 v2 σ _ _ _ hm hW hS (lv_sub hl [1] rfl)
      · replace hm := rc_f hm c_4
        refine lv_iload_n hx hb dX1_litresInBarrels_12 rfl (lv_at hl 1 rfl) ?_
        refine lv_aload_n hx hb dX1_litresInBarrels_13 rfl (lv_at hl 0 rfl) ?_
        refine rg_2_1 hx hb hts hown hK hW h0 tw_1_143 dX1_litresInBarrels_14 ?_
        refine lv_iload_n hx hb dX1_litresInBarrels_17 rfl (lv_at hl 2 rfl) ?_
        have hi_1 := (rc_ix hm).1
        replace hm := (rc_ix hm).2
        refine rc_aald hx hb hK hW (rc_t_2_1 hT h0) (by decide) rfl 4 rfl hi_1 dX1_litresInBarrels_18 ?_
        refine rg_1_1 hx hb hts hown hK hW (rc_t_25 hT (rc_t_2_1 hT h0) hi_1) tw_1_91 dX1_litresInBarrels_19 ?_
        refine lv_iadd hx hb dX1_litresInBarrels_22 ?_
        refine lv_topi (fun v1_2 ev => ?_)
        replace hm := rc_lt_at hm ev
        clear ev
        refine lv_istore_n (lv' := [(1, .int v1_2), (0, .ref a0), (2, .int v2)]) hx hb dX1_litresInBarrels_23 rfl hl (by decide) rfl (fun ls hl => ?_)
        obtain ⟨v2_3, ev⟩ : ∃ y : Int32, y = (v2 + 1) := ⟨_, rfl⟩
        replace hm := rc_lt_at hm ev
        refine lv_iinc (v := v2_3) (lv' := [(2, .int v2_3), (1, .int v1_2), (0, .ref a0)]) hx hb dX1_litresInBarrels_24 hl (k := 2) rfl (by rw [ev]; rfl) (by decide) rfl (fun ls hl => ?_)
        clear ev
        refine lv_goto (tgt := 4) hx hb dX1_litresInBarrels_27 (by decide) ?_
        exact ih v1_2 v2_3 σ _ _ _ hm hW hS (lv_sub hl [2, 1, 0] rfl)
  unfold f_X1_litresInBarrels at hm
  refine lv_iconst (v := 0) hx hb dX1_litresInBarrels_0 (by decide) ?_
  refine lv_istore_n (lv' := [(1, .int (0 : Int32)), (0, .ref a0)]) hx hb dX1_litresInBarrels_1 rfl hl (by decide) rfl (fun ls hl => ?_)
  refine lv_iconst (v := 0) hx hb dX1_litresInBarrels_2 (by decide) ?_
  refine lv_istore_n (lv' := [(2, .int (0 : Int32)), (1, .int (0 : Int32)), (0, .ref a0)]) hx hb dX1_litresInBarrels_3 rfl hl (by decide) rfl (fun ls hl => ?_)
  refine lp_4 _ (fun v1_5 v2_6 σ_7 H locs ls hm hW hS hl => ?_) rc_fu (0 : Int32) (0 : Int32) σ _ _ _ hm hW hS (lv_sub hl [2, 1, 0] rfl)
  refine lv_iload_n hx hb dX1_litresInBarrels_30 rfl (lv_at hl 0 rfl) ?_
  exact rc_eiret hx hb hr hlocks hW hS (Nat.le_of_ble_eq_true rfl) (Nat.le_of_ble_eq_true rfl) hm dX1_litresInBarrels_31
set_option maxHeartbeats 4000000 in
set_option maxRecDepth 100000 in
theorem k_X1_hailInBarrels (l : Launch) {Y : rc_Y} {sh : Nat → Nat} {rf : rc_F} (hT : rc_T Y sh rf) (a0 : Nat) (h0 : sh a0 = 2) (sz : Nat) (σ σ' : rc_S) (r : Int32) (hm : f_X1_hailInBarrels rf a0 σ = some (r, σ')) : Met l yX1_hailInBarrels (Cond.code yX1_hailInBarrels cX1_hailInBarrels 3 (some .int) :: rc_big) ({ frames := 0, cells := 0, slots := 0, locals := 0 } : Room) (rc_P Y sh rf σ sz [.ref a0]) (va_Qi (fun (r' : Int32) (_ : Unit) => r' = r) (fun _ t => rc_W Y sh rf σ' t.heap) (rc_A sh sz)) 0 0 (rc_A sh sz) := by
  refine Met.ofW (cc := cX1_hailInBarrels) (maxL := 3) (ret := (some .int)) (by decide +kernel) rfl ?_
  intro p e s m args below meth c s₁ B hml hv
  obtain ⟨rfl, hsz, hW, hK, hE⟩ := hv
  have hx := B.exec
  have hb := B.bytes
  have hr := B.returns
  have hts : ∀ w ∈ rc_big, w.before _ s = true := fun w h => atoms_spec (ws := Cond.code yX1_hailInBarrels cX1_hailInBarrels 3 (some .int) :: rc_big) B.pre w (List.mem_cons_of_mem _ h)
  have hown : s.vm.findClass RX1 = some m.cls := findClass_of_methodNamed B.named
  have hlocks := B.notSynchronized
  clear B
  subst hsz
  have hS : va_S (rc_A sh s.heap.size) s.heap s.heap [] := va_S.rf
  have hl := lv_entry ([.ref a0]) (n := 3) (Nat.le_of_ble_eq_true rfl)
  rw [lg_entry_eq]
  generalize (lg_sl ([.ref a0]) ++ List.replicate (3 - (lg_sl ([.ref a0])).length) Slot.unset).toArray = ls at hl ⊢
  have hl : lv_has ls 3 [(0, .ref a0)] := hl
  have lp_4 : ∀ (K : Int32 → Int32 → rc_S → Option (Int32 × rc_S)) (hKK : ∀ (v1 v2 : Int32) (σ : rc_S) (H : Heap) (locs : List Loc) (ls : Array Slot), K v1 v2 σ = some (r, σ') → rc_W Y sh rf σ H → va_S (rc_A sh s.heap.size) s.heap H locs → lv_has ls 3 [(1, .int v1)] → W p l e (headSpec (Cond.code yX1_hailInBarrels cX1_hailInBarrels 3 (some .int) :: rc_big) ({ frames := 0, cells := 0, slots := 0, locals := 0 } : Room)).room s m (([.ref a0] : List Value).toArray) below meth c H locs 0 0 (MQ below (va_Qi (fun (r' : Int32) (_ : Unit) => r' = r) (fun _ t => rc_W Y sh rf σ' t.heap) (rc_A sh s.heap.size)) ([.ref a0] : List Value).toArray s 0 0 (rc_A sh s.heap.size)) (F0 m 30 ls [])) (n : Nat) (v1 v2 : Int32) (σ : rc_S) (H : Heap) (locs : List Loc) (ls : Array Slot), f_X1_hailInBarrels_4 rf a0 K n v1 v2 σ = some (r, σ') → rc_W Y sh rf σ H → va_S (rc_A sh s.heap.size) s.heap H locs → lv_has ls 3 [(0, .ref a0), (1, .int v1), (2, .int v2)] → W p l e (headSpec (Cond.code yX1_hailInBarrels cX1_hailInBarrels 3 (some .int) :: rc_big) ({ frames := 0, cells := 0, slots := 0, locals := 0 } : Room)).room s m (([.ref a0] : List Value).toArray) below meth c H locs 0 0 (MQ below (va_Qi (fun (r' : Int32) (_ : Unit) => r' = r) (fun _ t => rc_W Y sh rf σ' t.heap) (rc_A sh s.heap.size)) ([.ref a0] : List Value).toArray s 0 0 (rc_A sh s.heap.size)) (F0 m 4 ls []) := by
    intro  K hKK n
    induction n with
    | zero =>
      intro v1 v2 σ H locs ls hm
      rw [f_X1_hailInBarrels_4] at hm
      cases hm
    | succ n ih =>
      intro v1 v2 σ H locs ls hm hW hS hl
      rw [f_X1_hailInBarrels_4] at hm
      refine lv_iload_n hx hb dX1_hailInBarrels_4 rfl (lv_at hl 2 rfl) ?_
      refine lv_aload_n hx hb dX1_hailInBarrels_5 rfl (lv_at hl 0 rfl) ?_
      refine rg_2_2 hx hb hts hown hK hW h0 tw_1_146 dX1_hailInBarrels_6 ?_
      refine lv_icmp_ge (tgt := 30) hx hb dX1_hailInBarrels_9 (by decide) (fun c_4 => ?_) (fun c_4 => ?_)
      · replace hm := rc_t hm c_4
        exact hKK v1 v2 σ _ _ _ hm hW hS (lv_sub hl [1] rfl)
      · replace hm := rc_f hm c_4
        refine lv_iload_n hx hb dX1_hailInBarrels_12 rfl (lv_at hl 1 rfl) ?_
        refine lv_aload_n hx hb dX1_hailInBarrels_13 rfl (lv_at hl 0 rfl) ?_
        refine rg_2_1 hx hb hts hown hK hW h0 tw_1_143 dX1_hailInBarrels_14 ?_
        refine lv_iload_n hx hb dX1_hailInBarrels_17 rfl (lv_at hl 2 rfl) ?_
        have hi_1 := (rc_ix hm).1
        replace hm := (rc_ix hm).2
        refine rc_aald hx hb hK hW (rc_t_2_1 hT h0) (by decide) rfl 4 rfl hi_1 dX1_hailInBarrels_18 ?_
        refine rg_1_2 hx hb hts hown hK hW (rc_t_25 hT (rc_t_2_1 hT h0) hi_1) tw_1_95 dX1_hailInBarrels_19 ?_
        refine lv_iadd hx hb dX1_hailInBarrels_22 ?_
        refine lv_topi (fun v1_2 ev => ?_)
        replace hm := rc_lt_at hm ev
        clear ev
        refine lv_istore_n (lv' := [(1, .int v1_2), (0, .ref a0), (2, .int v2)]) hx hb dX1_hailInBarrels_23 rfl hl (by decide) rfl (fun ls hl => ?_)
        obtain ⟨v2_3, ev⟩ : ∃ y : Int32, y = (v2 + 1) := ⟨_, rfl⟩
        replace hm := rc_lt_at hm ev
        refine lv_iinc (v := v2_3) (lv' := [(2, .int v2_3), (1, .int v1_2), (0, .ref a0)]) hx hb dX1_hailInBarrels_24 hl (k := 2) rfl (by rw [ev]; rfl) (by decide) rfl (fun ls hl => ?_)
        clear ev
        refine lv_goto (tgt := 4) hx hb dX1_hailInBarrels_27 (by decide) ?_
        exact ih v1_2 v2_3 σ _ _ _ hm hW hS (lv_sub hl [2, 1, 0] rfl)
  unfold f_X1_hailInBarrels at hm
  refine lv_iconst (v := 0) hx hb dX1_hailInBarrels_0 (by decide) ?_
  refine lv_istore_n (lv' := [(1, .int (0 : Int32)), (0, .ref a0)]) hx hb dX1_hailInBarrels_1 rfl hl (by decide) rfl (fun ls hl => ?_)
  refine lv_iconst (v := 0) hx hb dX1_hailInBarrels_2 (by decide) ?_
  refine lv_istore_n (lv' := [(2, .int (0 : Int32)), (1, .int (0 : Int32)), (0, .ref a0)]) hx hb dX1_hailInBarrels_3 rfl hl (by decide) rfl (fun ls hl => ?_)
  refine lp_4 _ (fun v1_5 v2_6 σ_7 H locs ls hm hW hS hl => ?_) rc_fu (0 : Int32) (0 : Int32) σ _ _ _ hm hW hS (lv_sub hl [2, 1, 0] rfl)
  refine lv_iload_n hx hb dX1_hailInBarrels_30 rfl (lv_at hl 0 rfl) ?_
  exact rc_eiret hx hb hr hlocks hW hS (Nat.le_of_ble_eq_true rfl) (Nat.le_of_ble_eq_true rfl) hm dX1_hailInBarrels_31
set_option maxHeartbeats 4000000 in
set_option maxRecDepth 100000 in
theorem k_X1_litresOfStorm (l : Launch) {Y : rc_Y} {sh : Nat → Nat} {rf : rc_F} (hT : rc_T Y sh rf) (a0 : Nat) (u1 : Int32) (h0 : sh a0 = 2) (sz : Nat) (σ σ' : rc_S) (r : Int32) (hm : f_X1_litresOfStorm rf a0 u1 σ = some (r, σ')) : Met l yX1_litresOfStorm (Cond.code yX1_litresOfStorm cX1_litresOfStorm 4 (some .int) :: rc_big) ({ frames := 0, cells := 0, slots := 0, locals := 0 } : Room) (rc_P Y sh rf σ sz [.ref a0, .int u1]) (va_Qi (fun (r' : Int32) (_ : Unit) => r' = r) (fun _ t => rc_W Y sh rf σ' t.heap) (rc_A sh sz)) 0 0 (rc_A sh sz) := by
  refine Met.ofW (cc := cX1_litresOfStorm) (maxL := 4) (ret := (some .int)) (by decide +kernel) rfl ?_
  intro p e s m args below meth c s₁ B hml hv
  obtain ⟨rfl, hsz, hW, hK, hE⟩ := hv
  have hx := B.exec
  have hb := B.bytes
  have hr := B.returns
  have hts : ∀ w ∈ rc_big, w.before _ s = true := fun w h => atoms_spec (ws := Cond.code yX1_litresOfStorm cX1_litresOfStorm 4 (some .int) :: rc_big) B.pre w (List.mem_cons_of_mem _ h)
  have hown : s.vm.findClass RX1 = some m.cls := findClass_of_methodNamed B.named
  have hlocks := B.notSynchronized
  clear B
  subst hsz
  have hS : va_S (rc_A sh s.heap.size) s.heap s.heap [] := va_S.rf
  have hl := lv_entry ([.ref a0, .int u1]) (n := 4) (Nat.le_of_ble_eq_true rfl)
  rw [lg_entry_eq]
  generalize (lg_sl ([.ref a0, .int u1]) ++ List.replicate (4 - (lg_sl ([.ref a0, .int u1])).length) Slot.unset).toArray = ls at hl ⊢
  have hl : lv_has ls 4 [(0, .ref a0), (1, .int u1)] := hl
  have lp_4 : ∀ (v1 : Int32) (K : Int32 → Int32 → rc_S → Option (Int32 × rc_S)) (hKK : ∀ (v2 v3 : Int32) (σ : rc_S) (H : Heap) (locs : List Loc) (ls : Array Slot), K v2 v3 σ = some (r, σ') → rc_W Y sh rf σ H → va_S (rc_A sh s.heap.size) s.heap H locs → lv_has ls 4 [(2, .int v2)] → W p l e (headSpec (Cond.code yX1_litresOfStorm cX1_litresOfStorm 4 (some .int) :: rc_big) ({ frames := 0, cells := 0, slots := 0, locals := 0 } : Room)).room s m (([.ref a0, .int u1] : List Value).toArray) below meth c H locs 0 0 (MQ below (va_Qi (fun (r' : Int32) (_ : Unit) => r' = r) (fun _ t => rc_W Y sh rf σ' t.heap) (rc_A sh s.heap.size)) ([.ref a0, .int u1] : List Value).toArray s 0 0 (rc_A sh s.heap.size)) (F0 m 47 ls [])) (n : Nat) (v2 v3 : Int32) (σ : rc_S) (H : Heap) (locs : List Loc) (ls : Array Slot), f_X1_litresOfStorm_4 rf a0 v1 K n v2 v3 σ = some (r, σ') → rc_W Y sh rf σ H → va_S (rc_A sh s.heap.size) s.heap H locs → lv_has ls 4 [(0, .ref a0), (1, .int v1), (2, .int v2), (3, .int v3)] → W p l e (headSpec (Cond.code yX1_litresOfStorm cX1_litresOfStorm 4 (some .int) :: rc_big) ({ frames := 0, cells := 0, slots := 0, locals := 0 } : Room)).room s m (([.ref a0, .int u1] : List Value).toArray) below meth c H locs 0 0 (MQ below (va_Qi (fun (r' : Int32) (_ : Unit) => r' = r) (fun _ t => rc_W Y sh rf σ' t.heap) (rc_A sh s.heap.size)) ([.ref a0, .int u1] : List Value).toArray s 0 0 (rc_A sh s.heap.size)) (F0 m 4 ls []) := by
    intro v1 K hKK n
    induction n with
    | zero =>
      intro v2 v3 σ H locs ls hm
      rw [f_X1_litresOfStorm_4] at hm
      cases hm
    | succ n ih =>
      intro v2 v3 σ H locs ls hm hW hS hl
      rw [f_X1_litresOfStorm_4] at hm
      refine lv_iload_n hx hb dX1_litresOfStorm_4 rfl (lv_at hl 3 rfl) ?_
      refine lv_aload_n hx hb dX1_litresOfStorm_5 rfl (lv_at hl 0 rfl) ?_
      refine rg_2_2 hx hb hts hown hK hW h0 tw_1_146 dX1_litresOfStorm_6 ?_
      refine lv_icmp_ge (tgt := 47) hx hb dX1_litresOfStorm_9 (by decide) (fun c_8 => ?_) (fun c_8 => ?_)
      · replace hm := rc_t hm c_8
        exact hKK v2 v3 σ _ _ _ hm hW hS (lv_sub hl [2] rfl)
      · replace hm := rc_f hm c_8
        refine lv_iload_n hx hb dX1_litresOfStorm_12 rfl (lv_at hl 2 rfl) ?_
        refine lv_aload_n hx hb dX1_litresOfStorm_13 rfl (lv_at hl 0 rfl) ?_
        refine rg_2_1 hx hb hts hown hK hW h0 tw_1_143 dX1_litresOfStorm_14 ?_
        refine lv_iload_n hx hb dX1_litresOfStorm_17 rfl (lv_at hl 3 rfl) ?_
        have hi_1 := (rc_ix hm).1
        replace hm := (rc_ix hm).2
        refine rc_aald hx hb hK hW (rc_t_2_1 hT h0) (by decide) rfl 4 rfl hi_1 dX1_litresOfStorm_18 ?_
        refine rg_1_3 hx hb hts hown hK hW (rc_t_25 hT (rc_t_2_1 hT h0) hi_1) tw_1_99 dX1_litresOfStorm_19 ?_
        refine lv_iload_n hx hb dX1_litresOfStorm_22 rfl (lv_at hl 1 rfl) ?_
        refine lv_icmp_ne (tgt := 38) hx hb dX1_litresOfStorm_23 (by decide) (fun c_7 => ?_) (fun c_7 => ?_)
        · replace hm := rc_f hm c_7
          refine lv_iconst (v := 0) hx hb dX1_litresOfStorm_38 (by decide) ?_
          refine lv_iadd hx hb dX1_litresOfStorm_39 ?_
          refine lv_topi (fun v2_2 ev => ?_)
          replace hm := rc_lt_at hm ev
          clear ev
          refine lv_istore_n (lv' := [(2, .int v2_2), (0, .ref a0), (1, .int v1), (3, .int v3)]) hx hb dX1_litresOfStorm_40 rfl hl (by decide) rfl (fun ls hl => ?_)
          obtain ⟨v3_3, ev⟩ : ∃ y : Int32, y = (v3 + 1) := ⟨_, rfl⟩
          replace hm := rc_lt_at hm ev
          refine lv_iinc (v := v3_3) (lv' := [(3, .int v3_3), (2, .int v2_2), (0, .ref a0), (1, .int v1)]) hx hb dX1_litresOfStorm_41 hl (k := 3) rfl (by rw [ev]; rfl) (by decide) rfl (fun ls hl => ?_)
          clear ev
          refine lv_goto (tgt := 4) hx hb dX1_litresOfStorm_44 (by decide) ?_
          exact ih v2_2 v3_3 σ _ _ _ hm hW hS (lv_sub hl [2, 3, 1, 0] rfl)
        · replace hm := rc_t hm c_7
          refine lv_aload_n hx hb dX1_litresOfStorm_26 rfl (lv_at hl 0 rfl) ?_
          refine rg_2_1 hx hb hts hown hK hW h0 tw_1_143 dX1_litresOfStorm_27 ?_
          refine lv_iload_n hx hb dX1_litresOfStorm_30 rfl (lv_at hl 3 rfl) ?_
          have hi_4 := (rc_ix hm).1
          replace hm := (rc_ix hm).2
          refine rc_aald hx hb hK hW (rc_t_2_1 hT h0) (by decide) rfl 4 rfl hi_4 dX1_litresOfStorm_31 ?_
          refine rg_1_1 hx hb hts hown hK hW (rc_t_25 hT (rc_t_2_1 hT h0) hi_4) tw_1_91 dX1_litresOfStorm_32 ?_
          refine lv_goto (tgt := 39) hx hb dX1_litresOfStorm_35 (by decide) ?_
          refine lv_iadd hx hb dX1_litresOfStorm_39 ?_
          refine lv_topi (fun v2_5 ev => ?_)
          replace hm := rc_lt_at hm ev
          clear ev
          refine lv_istore_n (lv' := [(2, .int v2_5), (0, .ref a0), (1, .int v1), (3, .int v3)]) hx hb dX1_litresOfStorm_40 rfl hl (by decide) rfl (fun ls hl => ?_)
          obtain ⟨v3_6, ev⟩ : ∃ y : Int32, y = (v3 + 1) := ⟨_, rfl⟩
          replace hm := rc_lt_at hm ev
          refine lv_iinc (v := v3_6) (lv' := [(3, .int v3_6), (2, .int v2_5), (0, .ref a0), (1, .int v1)]) hx hb dX1_litresOfStorm_41 hl (k := 3) rfl (by rw [ev]; rfl) (by decide) rfl (fun ls hl => ?_)
          clear ev
          refine lv_goto (tgt := 4) hx hb dX1_litresOfStorm_44 (by decide) ?_
          exact ih v2_5 v3_6 σ _ _ _ hm hW hS (lv_sub hl [2, 3, 1, 0] rfl)
  unfold f_X1_litresOfStorm at hm
  refine lv_iconst (v := 0) hx hb dX1_litresOfStorm_0 (by decide) ?_
  refine lv_istore_n (lv' := [(2, .int (0 : Int32)), (0, .ref a0), (1, .int u1)]) hx hb dX1_litresOfStorm_1 rfl hl (by decide) rfl (fun ls hl => ?_)
  refine lv_iconst (v := 0) hx hb dX1_litresOfStorm_2 (by decide) ?_
  refine lv_istore_n (lv' := [(3, .int (0 : Int32)), (2, .int (0 : Int32)), (0, .ref a0), (1, .int u1)]) hx hb dX1_litresOfStorm_3 rfl hl (by decide) rfl (fun ls hl => ?_)
  refine lp_4 u1 _ (fun v2_9 v3_10 σ_11 H locs ls hm hW hS hl => ?_) rc_fu (0 : Int32) (0 : Int32) σ _ _ _ hm hW hS (lv_sub hl [2, 3, 1, 0] rfl)
  refine lv_iload_n hx hb dX1_litresOfStorm_47 rfl (lv_at hl 0 rfl) ?_
  exact rc_eiret hx hb hr hlocks hW hS (Nat.le_of_ble_eq_true rfl) (Nat.le_of_ble_eq_true rfl) hm dX1_litresOfStorm_48
set_option maxHeartbeats 4000000 in
set_option maxRecDepth 100000 in
theorem k_X1_mostHailFor (l : Launch) {Y : rc_Y} {sh : Nat → Nat} {rf : rc_F} (hT : rc_T Y sh rf) (a0 : Nat) (q1 : Nat) (h0 : sh a0 = 2) (hq1 : sh q1 = 1) (sz : Nat) (σ σ' : rc_S) (r : Int32) (hm : f_X1_mostHailFor rf a0 q1 σ = some (r, σ')) : Met l yX1_mostHailFor (Cond.code yX1_mostHailFor cX1_mostHailFor 2 (some .int) :: rc_big) ({ frames := 1, cells := 0, slots := 0, locals := 20 } : Room) (rc_P Y sh rf σ sz [.ref a0, .ref q1]) (va_Qi (fun (r' : Int32) (_ : Unit) => r' = r) (fun _ t => rc_W Y sh rf σ' t.heap) (rc_A sh sz)) 0 0 (rc_A sh sz) := by
  refine Met.ofW (cc := cX1_mostHailFor) (maxL := 2) (ret := (some .int)) (by decide +kernel) rfl ?_
  intro p e s m args below meth c s₁ B hml hv
  obtain ⟨rfl, hsz, hW, hK, hE⟩ := hv
  have hx := B.exec
  have hb := B.bytes
  have hr := B.returns
  have hts : ∀ w ∈ rc_big, w.before _ s = true := fun w h => atoms_spec (ws := Cond.code yX1_mostHailFor cX1_mostHailFor 2 (some .int) :: rc_big) B.pre w (List.mem_cons_of_mem _ h)
  have hown : s.vm.findClass RX1 = some m.cls := findClass_of_methodNamed B.named
  have hlocks := B.notSynchronized
  clear B
  subst hsz
  have hS : va_S (rc_A sh s.heap.size) s.heap s.heap [] := va_S.rf
  have hl := lv_entry ([.ref a0, .ref q1]) (n := 2) (Nat.le_of_ble_eq_true rfl)
  rw [lg_entry_eq]
  generalize (lg_sl ([.ref a0, .ref q1]) ++ List.replicate (2 - (lg_sl ([.ref a0, .ref q1])).length) Slot.unset).toArray = ls at hl ⊢
  have hl : lv_has ls 2 [(0, .ref a0), (1, .ref q1)] := hl
  unfold f_X1_mostHailFor at hm
  refine lv_aload_n hx hb dX1_mostHailFor_0 rfl (lv_at hl 1 rfl) ?_
  obtain ⟨w_1, σ_1, hc_1, hm0⟩ := rc_bd_inv hm
  clear hm
  refine rc_ci hS (va_runV (As := []) (rest := []) ⟨hx, hb, hml, hown, hts⟩ (k_X0_room l hT q1 hq1 s.heap.size _ _ _ hc_1) (cwV 0 hts (rc_gV tw_6_173 tw_4_87 tw_4_88 tw_1_5 tw_4_89) rfl rfl rfl (by decide +kernel) ⟨Nat.le_of_ble_eq_true rfl, Nat.le_of_ble_eq_true rfl⟩) (rc_preV hT hW hK hE hS hq1 (by decide) rfl (q := (RX0, TX0, 6)) rfl []) rfl rfl hl.1 rfl (lv_room (Nat.le_of_ble_eq_true rfl)) dX1_mostHailFor_1 ⟨Nat.le_of_ble_eq_true rfl, Nat.le_of_ble_eq_true rfl⟩) (fun H locs hW hS => ?_)
  have hm := hm0
  clear hm0 hc_1
  refine lv_aload_n hx hb dX1_mostHailFor_4 rfl (lv_at hl 0 rfl) ?_
  refine rg_2_6 hx hb hts hown hK hW h0 tw_1_156 dX1_mostHailFor_5 ?_
  refine va_mmin hx hb (hml.trans hl.1.symm) hown (hts _ tw_3_106) (hts _ tw_3_31) (hts _ tw_1_22) (hts _ tw_3_32) (Nat.le_of_ble_eq_true rfl) (Nat.le_of_ble_eq_true rfl) (Nat.le_of_ble_eq_true rfl) (Nat.le_of_ble_eq_true rfl) dX1_mostHailFor_8 ?_
  exact rc_eiret hx hb hr hlocks hW hS (Nat.le_of_ble_eq_true rfl) (Nat.le_of_ble_eq_true rfl) hm dX1_mostHailFor_11
set_option maxHeartbeats 4000000 in
set_option maxRecDepth 100000 in
theorem k_X1_isLateStorm (l : Launch) {Y : rc_Y} {sh : Nat → Nat} {rf : rc_F} (hT : rc_T Y sh rf) (a0 : Nat) (u1 : Int32) (h0 : sh a0 = 2) (sz : Nat) (σ σ' : rc_S) (r : Int32) (hm : f_X1_isLateStorm rf a0 u1 σ = some (r, σ')) : Met l yX1_isLateStorm (Cond.code yX1_isLateStorm cX1_isLateStorm 2 (some .boolean) :: rc_big) ({ frames := 0, cells := 0, slots := 0, locals := 0 } : Room) (rc_P Y sh rf σ sz [.ref a0, .int u1]) (va_Qi (fun (r' : Int32) (_ : Unit) => r' = r) (fun _ t => rc_W Y sh rf σ' t.heap) (rc_A sh sz)) 0 0 (rc_A sh sz) := by
  refine Met.ofW (cc := cX1_isLateStorm) (maxL := 2) (ret := (some .boolean)) (by decide +kernel) rfl ?_
  intro p e s m args below meth c s₁ B hml hv
  obtain ⟨rfl, hsz, hW, hK, hE⟩ := hv
  have hx := B.exec
  have hb := B.bytes
  have hr := B.returns
  have hts : ∀ w ∈ rc_big, w.before _ s = true := fun w h => atoms_spec (ws := Cond.code yX1_isLateStorm cX1_isLateStorm 2 (some .boolean) :: rc_big) B.pre w (List.mem_cons_of_mem _ h)
  have hown : s.vm.findClass RX1 = some m.cls := findClass_of_methodNamed B.named
  have hlocks := B.notSynchronized
  clear B
  subst hsz
  have hS : va_S (rc_A sh s.heap.size) s.heap s.heap [] := va_S.rf
  have hl := lv_entry ([.ref a0, .int u1]) (n := 2) (Nat.le_of_ble_eq_true rfl)
  rw [lg_entry_eq]
  generalize (lg_sl ([.ref a0, .int u1]) ++ List.replicate (2 - (lg_sl ([.ref a0, .int u1])).length) Slot.unset).toArray = ls at hl ⊢
  have hl : lv_has ls 2 [(0, .ref a0), (1, .int u1)] := hl
  unfold f_X1_isLateStorm at hm
  refine lv_iload_n hx hb dX1_isLateStorm_0 rfl (lv_at hl 1 rfl) ?_
  refine lv_if_lt (tgt := 27) hx hb dX1_isLateStorm_1 (by decide) (fun c_3 => ?_) (fun c_3 => ?_)
  · replace hm := rc_t hm c_3
    refine lv_iconst (v := 0) hx hb dX1_isLateStorm_27 (by decide) ?_
    exact rc_ezret hx hb hr hlocks hW hS (Nat.le_of_ble_eq_true rfl) (Nat.le_of_ble_eq_true rfl) rfl hm dX1_isLateStorm_28
  · replace hm := rc_f hm c_3
    refine lv_iload_n hx hb dX1_isLateStorm_4 rfl (lv_at hl 1 rfl) ?_
    refine lv_aload_n hx hb dX1_isLateStorm_5 rfl (lv_at hl 0 rfl) ?_
    refine rg_2_5 hx hb hts hown hK hW h0 tw_1_153 dX1_isLateStorm_6 ?_
    refine lv_icmp_ge (tgt := 27) hx hb dX1_isLateStorm_9 (by decide) (fun c_2 => ?_) (fun c_2 => ?_)
    · replace hm := rc_t hm c_2
      refine lv_iconst (v := 0) hx hb dX1_isLateStorm_27 (by decide) ?_
      exact rc_ezret hx hb hr hlocks hW hS (Nat.le_of_ble_eq_true rfl) (Nat.le_of_ble_eq_true rfl) rfl hm dX1_isLateStorm_28
    · replace hm := rc_f hm c_2
      refine lv_iload_n hx hb dX1_isLateStorm_12 rfl (lv_at hl 1 rfl) ?_
      refine lv_aload_n hx hb dX1_isLateStorm_13 rfl (lv_at hl 0 rfl) ?_
      refine rg_2_5 hx hb hts hown hK hW h0 tw_1_153 dX1_isLateStorm_14 ?_
      refine lv_bipush (v := 12) hx hb dX1_isLateStorm_17 (by decide) ?_
      refine lv_isub hx hb dX1_isLateStorm_19 ?_
      refine lv_icmp_lt (tgt := 27) hx hb dX1_isLateStorm_20 (by decide) (fun c_1 => ?_) (fun c_1 => ?_)
      · replace hm := rc_t hm c_1
        refine lv_iconst (v := 0) hx hb dX1_isLateStorm_27 (by decide) ?_
        exact rc_ezret hx hb hr hlocks hW hS (Nat.le_of_ble_eq_true rfl) (Nat.le_of_ble_eq_true rfl) rfl hm dX1_isLateStorm_28
      · replace hm := rc_f hm c_1
        refine lv_iconst (v := 1) hx hb dX1_isLateStorm_23 (by decide) ?_
        refine lv_goto (tgt := 28) hx hb dX1_isLateStorm_24 (by decide) ?_
        exact rc_ezret hx hb hr hlocks hW hS (Nat.le_of_ble_eq_true rfl) (Nat.le_of_ble_eq_true rfl) rfl hm dX1_isLateStorm_28
