def f_J9_floorMod_7cf53 (rf : rc_F) (u0 : Int32) (u1 : Int32) (σ : rc_S) : Option (Int32 × rc_S) :=
  rc_ck (decide (¬ u1 = 0)) <|
  rc_lt (u0 - u0 / u1 * u1) fun v2_2 =>
  if 0 ≤ (u0 ^^^ u1) then
    some (v2_2, σ)
  else
    if v2_2 = 0 then
      some (v2_2, σ)
    else
      some ((v2_2 + u1), σ)
def f_J5_isLatin1_aae02 (rf : rc_F) (a0 : Nat) (σ : rc_S) : Option (Int32 × rc_S) :=
  if (σ a0 1) = 0 then
    some ((1 : Int32), σ)
  else
    some ((0 : Int32), σ)
def f_J5_length_8abf5 (rf : rc_F) (a0 : Nat) (σ : rc_S) : Option (Int32 × rc_S) :=
  some ((σ a0 3), σ)
def f_J5_ensureCapacityInternal_d00df (rf : rc_F) (a0 : Nat) (u1 : Int32) (σ : rc_S) : Option (Unit × rc_S) :=
  rc_lt ((16 : Int32) >>> ((σ a0 1) &&& 31)) fun v2_1 =>
  if (u1 - v2_1) ≤ 0 then
    some ((), σ)
  else
    none
def f_J6_stringSize_0f7a4_16 (rf : rc_F) (v0 : Int32) (v1 : Int32) (K : Int32 → Int32 → rc_S → Option (Int32 × rc_S)) : Nat → Int32 → Int32 → rc_S → Option (Int32 × rc_S)
  | 0, _, _, _ => none
  | n + 1, v2, v3, σ =>
    if (10 : Int32) ≤ v3 then
      K v2 v3 σ
    else
      if v0 ≤ v2 then
        rc_lt ((10 : Int32) * v2) fun v2_1 =>
        rc_lt (v3 + 1) fun v3_2 =>
        f_J6_stringSize_0f7a4_16 rf v0 v1 K n v2_1 v3_2 σ
      else
        some ((v3 + v1), σ)
def f_J6_stringSize_0f7a4 (rf : rc_F) (u0 : Int32) (σ : rc_S) : Option (Int32 × rc_S) :=
  if u0 < 0 then
    f_J6_stringSize_0f7a4_16 rf u0 (1 : Int32) (fun v2_5 v3_6 σ_7 =>
      some (((10 : Int32) + (1 : Int32)), σ_7)
    ) rc_fu (-10 : Int32) (1 : Int32) σ
  else
    rc_lt (-u0) fun v0_8 =>
    f_J6_stringSize_0f7a4_16 rf v0_8 (0 : Int32) (fun v2_9 v3_10 σ_11 =>
      some (((10 : Int32) + (0 : Int32)), σ_11)
    ) rc_fu (-10 : Int32) (1 : Int32) σ
def f_J6_getChars_ba4f3_22 (rf : rc_F) (r2 : Nat) (v6 : Int32) (K : Int32 → Int32 → rc_S → Option (Int32 × rc_S)) : Nat → Int32 → Int32 → rc_S → Option (Int32 × rc_S)
  | 0, _, _, _ => none
  | n + 1, v0, v5, σ =>
    if (-100 : Int32) < v0 then
      K v0 v5 σ
    else
      rc_lt (v0 / (100 : Int32)) fun v3_2 =>
      rc_lt ((v3_2 * (100 : Int32)) - v0) fun v4_3 =>
      rc_lt (v5 + (-1)) fun v5_4 =>
      rc_ck (rc_in v4_3 100) <|
      rc_ck (rc_in v5_4 16) <|
      rc_lt (rc_up σ r2 v5_4.toNatClampNeg (vp_nar .byte (rc_d1 (v4_3.toNatClampNeg)))) fun σ_8 =>
      rc_lt (v5_4 + (-1)) fun v5_9 =>
      rc_ck (rc_in v4_3 100) <|
      rc_ck (rc_in v5_9 16) <|
      rc_lt (rc_up σ_8 r2 v5_9.toNatClampNeg (vp_nar .byte (rc_d10 (v4_3.toNatClampNeg)))) fun σ_13 =>
      f_J6_getChars_ba4f3_22 rf r2 v6 K n v3_2 v5_9 σ_13
def f_J6_getChars_ba4f3 (rf : rc_F) (u0 : Int32) (u1 : Int32) (q2 : Nat) (σ : rc_S) : Option (Int32 × rc_S) :=
  if 0 ≤ u0 then
    rc_lt (-u0) fun v0_1 =>
    f_J6_getChars_ba4f3_22 rf q2 (0 : Int32) (fun v0_15 v5_16 σ_17 =>
      rc_lt (v5_16 + (-1)) fun v5_18 =>
      rc_ck (rc_in (-v0_15) 100) <|
      rc_ck (rc_in v5_18 16) <|
      rc_lt (rc_up σ_17 q2 v5_18.toNatClampNeg (vp_nar .byte (rc_d1 ((-v0_15).toNatClampNeg)))) fun σ_22 =>
      if (-9 : Int32) ≤ v0_15 then
        some (v5_18, σ_22)
      else
        rc_lt (v5_18 + (-1)) fun v5_23 =>
        rc_ck (rc_in (-v0_15) 100) <|
        rc_ck (rc_in v5_23 16) <|
        rc_lt (rc_up σ_22 q2 v5_23.toNatClampNeg (vp_nar .byte (rc_d10 ((-v0_15).toNatClampNeg)))) fun σ_27 =>
        some (v5_23, σ_27)
    ) rc_fu v0_1 u1 σ
  else
    f_J6_getChars_ba4f3_22 rf q2 (1 : Int32) (fun v0_29 v5_30 σ_31 =>
      rc_lt (v5_30 + (-1)) fun v5_32 =>
      rc_ck (rc_in (-v0_29) 100) <|
      rc_ck (rc_in v5_32 16) <|
      rc_lt (rc_up σ_31 q2 v5_32.toNatClampNeg (vp_nar .byte (rc_d1 ((-v0_29).toNatClampNeg)))) fun σ_36 =>
      if (-9 : Int32) ≤ v0_29 then
        rc_lt (v5_32 + (-1)) fun v5_37 =>
        rc_ck (rc_in v5_37 16) <|
        rc_lt (rc_up σ_36 q2 v5_37.toNatClampNeg (vp_nar .byte (45 : Int32))) fun σ_39 =>
        some (v5_37, σ_39)
      else
        rc_lt (v5_32 + (-1)) fun v5_40 =>
        rc_ck (rc_in (-v0_29) 100) <|
        rc_ck (rc_in v5_40 16) <|
        rc_lt (rc_up σ_36 q2 v5_40.toNatClampNeg (vp_nar .byte (rc_d10 ((-v0_29).toNatClampNeg)))) fun σ_44 =>
        rc_lt (v5_40 + (-1)) fun v5_45 =>
        rc_ck (rc_in v5_45 16) <|
        rc_lt (rc_up σ_44 q2 v5_45.toNatClampNeg (vp_nar .byte (45 : Int32))) fun σ_47 =>
        some (v5_45, σ_47)
    ) rc_fu u0 u1 σ
def f_J5_setLength_d00df (rf : rc_F) (a0 : Nat) (u1 : Int32) (σ : rc_S) : Option (Unit × rc_S) :=
  if 0 ≤ u1 then
    rc_bd (f_J5_ensureCapacityInternal_d00df rf a0 u1 σ) fun _ σ_1 =>
    if u1 ≤ (σ_1 a0 3) then
      if (σ_1 a0 3) ≤ u1 then
        rc_lt (rc_up σ_1 a0 3 u1) fun σ_2 =>
        some ((), σ_2)
      else
        rc_lt (rc_up σ_1 a0 2 (1 : Int32)) fun σ_3 =>
        rc_lt (rc_up σ_3 a0 3 u1) fun σ_4 =>
        some ((), σ_4)
    else
      rc_bd (f_J5_isLatin1_aae02 rf a0 σ_1) fun w_6 σ_6 =>
      if w_6 = 0 then
        none
      else
        none
  else
    none
def f_J4_setLength_d00df (rf : rc_F) (a0 : Nat) (u1 : Int32) (σ : rc_S) : Option (Unit × rc_S) :=
  rc_bd (f_J5_setLength_d00df rf a0 u1 σ) fun _ σ_1 =>
  some ((), σ_1)
def f_J4_length_8abf5 (rf : rc_F) (a0 : Nat) (σ : rc_S) : Option (Int32 × rc_S) :=
  rc_bd (f_J5_length_8abf5 rf a0 σ) fun w_1 σ_1 =>
  some (w_1, σ_1)
def f_J3_checkIndex_8e157 (rf : rc_F) (u0 : Int32) (u1 : Int32) (σ : rc_S) : Option (Int32 × rc_S) :=
  if u0 < 0 then
    none
  else
    if u0 < u1 then
      some (u0, σ)
    else
      none

def f_J0_coder_7d493 (rf : rc_F) (a0 : Nat) (σ : rc_S) : Option (Int32 × rc_S) :=
  some ((0 : Int32), σ)
def f_J0_length_8abf5 (rf : rc_F) (a0 : Nat) (σ : rc_S) : Option (Int32 × rc_S) :=
  rc_bd (f_J0_coder_7d493 rf a0 σ) fun w_1 σ_1 =>
  some (((Int32.ofNat (rc_len.getD a0 0)) >>> (w_1 &&& 31)), σ_1)
def f_J0_isLatin1_aae02 (rf : rc_F) (a0 : Nat) (σ : rc_S) : Option (Int32 × rc_S) :=
  some ((1 : Int32), σ)
def f_J0_checkIndex_df160 (rf : rc_F) (u0 : Int32) (u1 : Int32) (σ : rc_S) : Option (Unit × rc_S) :=
  rc_bd (f_J3_checkIndex_8e157 rf u0 u1 σ) fun w_2 σ_2 =>
  some ((), σ_2)
def f_J1_charAt_3b067 (rf : rc_F) (q0 : Nat) (u1 : Int32) (σ : rc_S) : Option (Int32 × rc_S) :=
  rc_bd (f_J0_checkIndex_df160 rf u1 (Int32.ofNat (rc_len.getD q0 0)) σ) fun _ σ_1 =>
  rc_ck (rc_in u1 (rc_len.getD q0 0)) <|
  rc_ck (decide (vp_nar .char (((((rc_byt.getD q0 []).getD u1.toNatClampNeg 0) &&& (255 : Int32)).toUInt32 % 65536).toInt32) = ((((rc_byt.getD q0 []).getD u1.toNatClampNeg 0) &&& (255 : Int32)).toUInt32 % 65536).toInt32)) <|
  some (((((rc_byt.getD q0 []).getD u1.toNatClampNeg 0) &&& (255 : Int32)).toUInt32 % 65536).toInt32, σ_1)
def f_J1_canEncode_fc78d (rf : rc_F) (u0 : Int32) (σ : rc_S) : Option (Int32 × rc_S) :=
  if (255 : Int32) < u0 then
    some ((0 : Int32), σ)
  else
    some ((1 : Int32), σ)
def f_J0_charAt_5068e (rf : rc_F) (a0 : Nat) (u1 : Int32) (σ : rc_S) : Option (Int32 × rc_S) :=
  rc_bd (f_J0_isLatin1_aae02 rf a0 σ) fun w_1 σ_1 =>
  if w_1 = 0 then
    none
  else
    rc_bd (f_J1_charAt_3b067 rf a0 u1 σ_1) fun w_2 σ_2 =>
    rc_ck (decide (vp_nar .char w_2 = w_2)) <|
    some (w_2, σ_2)
def f_J1_canEncode_9a6ad (rf : rc_F) (u0 : Int32) (σ : rc_S) : Option (Int32 × rc_S) :=
  if u0 < 0 then
    some ((0 : Int32), σ)
  else
    if (255 : Int32) < u0 then
      some ((0 : Int32), σ)
    else
      some ((1 : Int32), σ)
def f_J1_indexOfChar_4cfef_7 (rf : rc_F) (r0 : Nat) (v3 : Int32) (v4 : Int32) (K : Int32 → rc_S → Option (Int32 × rc_S)) : Nat → Int32 → rc_S → Option (Int32 × rc_S)
  | 0, _, _ => none
  | n + 1, v5, σ =>
    if v3 ≤ v5 then
      K v5 σ
    else
      rc_ck (rc_in v5 (rc_len.getD r0 0)) <|
      if ((rc_byt.getD r0 []).getD v5.toNatClampNeg 0) = v4 then
        some (v5, σ)
      else
        rc_lt (v5 + 1) fun v5_3 =>
        f_J1_indexOfChar_4cfef_7 rf r0 v3 v4 K n v5_3 σ
def f_J1_indexOfChar_4cfef (rf : rc_F) (q0 : Nat) (u1 : Int32) (u2 : Int32) (u3 : Int32) (σ : rc_S) : Option (Int32 × rc_S) :=
  rc_lt u1.toInt8.toInt32 fun v4_1 =>
  f_J1_indexOfChar_4cfef_7 rf q0 u3 v4_1 (fun v5_6 σ_7 =>
    some ((-1 : Int32), σ_7)
  ) rc_fu u2 σ
def f_J1_indexOf_4cfef (rf : rc_F) (q0 : Nat) (u1 : Int32) (u2 : Int32) (u3 : Int32) (σ : rc_S) : Option (Int32 × rc_S) :=
  rc_bd (f_J1_canEncode_9a6ad rf u1 σ) fun w_1 σ_1 =>
  if w_1 = 0 then
    some ((-1 : Int32), σ_1)
  else
    rc_lt (if u2 < (0 : Int32) then (0 : Int32) else u2) fun v2_2 =>
    rc_lt (if (Int32.ofNat (rc_len.getD q0 0)) < u3 then (Int32.ofNat (rc_len.getD q0 0)) else u3) fun v3_3 =>
    if v2_2 < v3_3 then
      rc_bd (f_J1_indexOfChar_4cfef rf q0 u1 v2_2 v3_3 σ_1) fun w_4 σ_4 =>
      some (w_4, σ_4)
    else
      some ((-1 : Int32), σ_1)
def f_J0_indexOf_7cf53 (rf : rc_F) (a0 : Nat) (u1 : Int32) (u2 : Int32) (σ : rc_S) : Option (Int32 × rc_S) :=
  rc_bd (f_J0_isLatin1_aae02 rf a0 σ) fun w_1 σ_1 =>
  if w_1 = 0 then
    none
  else
    rc_bd (f_J0_length_8abf5 rf a0 σ_1) fun w_3 σ_3 =>
    rc_bd (f_J1_indexOf_4cfef rf a0 u1 u2 w_3 σ_3) fun w_4 σ_4 =>
    some (w_4, σ_4)
def f_J0_indexOf_0f7a4 (rf : rc_F) (a0 : Nat) (u1 : Int32) (σ : rc_S) : Option (Int32 × rc_S) :=
  rc_bd (f_J0_indexOf_7cf53 rf a0 u1 (0 : Int32) σ) fun w_1 σ_1 =>
  some (w_1, σ_1)
def f_J5_charAt_5068e (rf : rc_F) (a0 : Nat) (u1 : Int32) (σ : rc_S) : Option (Int32 × rc_S) :=
  rc_lt (σ a0 1) fun v2_1 =>
  rc_lt (if ((16 : Int32) >>> (v2_1 &&& 31)) < (σ a0 3) then ((16 : Int32) >>> (v2_1 &&& 31)) else (σ a0 3)) fun v4_2 =>
  rc_bd (f_J0_checkIndex_df160 rf u1 v4_2 σ) fun _ σ_3 =>
  if v2_1 = 0 then
    rc_ck (rc_in u1 16) <|
    rc_ck (decide (vp_nar .char ((((σ_3 (rf a0 0) u1.toNatClampNeg) &&& (255 : Int32)).toUInt32 % 65536).toInt32) = (((σ_3 (rf a0 0) u1.toNatClampNeg) &&& (255 : Int32)).toUInt32 % 65536).toInt32)) <|
    some ((((σ_3 (rf a0 0) u1.toNatClampNeg) &&& (255 : Int32)).toUInt32 % 65536).toInt32, σ_3)
  else
    none
set_option maxHeartbeats 4000000 in
set_option maxRecDepth 100000 in
theorem k_J9_floorMod_7cf53 (l : Launch) {Y : rc_Y} {sh : Nat → Nat} {rf : rc_F} (hT : rc_T Y sh rf) (u0 : Int32) (u1 : Int32) (sz : Nat) (σ σ' : rc_S) (r : Int32) (hm : f_J9_floorMod_7cf53 rf u0 u1 σ = some (r, σ')) : Met l yJ9_floorMod_7cf53 (Cond.code yJ9_floorMod_7cf53 cJ9_floorMod_7cf53 3 (some .int) :: rc_big) ({ frames := 0, cells := 0, slots := 0, locals := 0 } : Room) (rc_P Y sh rf σ sz [.int u0, .int u1]) (va_Qi (fun (r' : Int32) (_ : Unit) => r' = r) (fun _ t => rc_W Y sh rf σ' t.heap) (rc_A sh sz)) 0 0 (rc_A sh sz) := by
  refine rc_ofWF (cc := cJ9_floorMod_7cf53) (maxL := 3) (ret := (some .int)) (by decide +kernel) rfl ?_
  intro p e s m args below meth c s₁ B hml hv
  obtain ⟨rfl, hsz, hW, hK, hE⟩ := hv
  have hx := B.exec
  have hb := B.bytes
  have hr := B.returns
  have hts : ∀ w ∈ rc_big, w.before _ s = true := fun w h => atoms_spec (ws := Cond.code yJ9_floorMod_7cf53 cJ9_floorMod_7cf53 3 (some .int) :: rc_big) B.pre w (List.mem_cons_of_mem _ h)
  have hown : s.vm.findClass RJ9 = some m.cls := findClass_of_methodNamed B.named
  have hlocks := B.notSynchronized
  clear B
  subst hsz
  have hS : va_S (rc_A sh s.heap.size) s.heap s.heap [] := va_S.rf
  have hl := lv_entry ([.int u0, .int u1]) (n := 3) (Nat.le_of_ble_eq_true rfl)
  rw [lg_entry_eq]
  generalize (lg_sl ([.int u0, .int u1]) ++ List.replicate (3 - (lg_sl ([.int u0, .int u1])).length) Slot.unset).toArray = ls at hl ⊢
  have hl : lv_has ls 3 [(0, .int u0), (1, .int u1)] := hl
  unfold f_J9_floorMod_7cf53 at hm
  refine lv_iload_n hx hb dJ9_floorMod_7cf53_0 rfl (lv_at hl 0 rfl) ?_
  refine lv_iload_n hx hb dJ9_floorMod_7cf53_1 rfl (lv_at hl 1 rfl) ?_
  have hz_1 := (rc_nz hm).1
  replace hm := (rc_nz hm).2
  refine lv_irem hx hb dJ9_floorMod_7cf53_2 hz_1 ?_
  refine lv_topi (fun v2_2 ev => ?_)
  replace hm := rc_lt_at hm ev
  clear ev
  refine lv_istore_n (lv' := [(2, .int v2_2), (0, .int u0), (1, .int u1)]) hx hb dJ9_floorMod_7cf53_3 rfl hl (by decide) rfl (fun ls hl => ?_)
  refine lv_iload_n hx hb dJ9_floorMod_7cf53_4 rfl (lv_at hl 1 rfl) ?_
  refine lv_iload_n hx hb dJ9_floorMod_7cf53_5 rfl (lv_at hl 2 rfl) ?_
  refine lv_ixor hx hb dJ9_floorMod_7cf53_6 ?_
  refine lv_if_ge (tgt := 18) hx hb dJ9_floorMod_7cf53_7 (by decide) (fun c_4 => ?_) (fun c_4 => ?_)
  · replace hm := rc_t hm c_4
    refine lv_iload_n hx hb dJ9_floorMod_7cf53_18 rfl (lv_at hl 0 rfl) ?_
    exact rc_eiret hx hb hr hlocks hW hS (Nat.le_of_ble_eq_true rfl) (Nat.le_of_ble_eq_true rfl) hm dJ9_floorMod_7cf53_19
  · replace hm := rc_f hm c_4
    refine lv_iload_n hx hb dJ9_floorMod_7cf53_10 rfl (lv_at hl 0 rfl) ?_
    refine lv_if_eq (tgt := 18) hx hb dJ9_floorMod_7cf53_11 (by decide) (fun c_3 => ?_) (fun c_3 => ?_)
    · replace hm := rc_t hm c_3
      refine lv_iload_n hx hb dJ9_floorMod_7cf53_18 rfl (lv_at hl 0 rfl) ?_
      exact rc_eiret hx hb hr hlocks hW hS (Nat.le_of_ble_eq_true rfl) (Nat.le_of_ble_eq_true rfl) hm dJ9_floorMod_7cf53_19
    · replace hm := rc_f hm c_3
      refine lv_iload_n hx hb dJ9_floorMod_7cf53_14 rfl (lv_at hl 0 rfl) ?_
      refine lv_iload_n hx hb dJ9_floorMod_7cf53_15 rfl (lv_at hl 2 rfl) ?_
      refine lv_iadd hx hb dJ9_floorMod_7cf53_16 ?_
      exact rc_eiret hx hb hr hlocks hW hS (Nat.le_of_ble_eq_true rfl) (Nat.le_of_ble_eq_true rfl) hm dJ9_floorMod_7cf53_17
set_option maxHeartbeats 4000000 in
set_option maxRecDepth 100000 in
theorem k_J5_isLatin1_aae02 (l : Launch) {Y : rc_Y} {sh : Nat → Nat} {rf : rc_F} (hT : rc_T Y sh rf) (a0 : Nat) (h0 : sh a0 = 11) (sz : Nat) (σ σ' : rc_S) (r : Int32) (hm : f_J5_isLatin1_aae02 rf a0 σ = some (r, σ')) : Met l yJ5_isLatin1_aae02 (Cond.code yJ5_isLatin1_aae02 cJ5_isLatin1_aae02 1 (some .boolean) :: rc_big) ({ frames := 0, cells := 0, slots := 0, locals := 0 } : Room) (rc_P Y sh rf σ sz [.ref a0]) (va_Qi (fun (r' : Int32) (_ : Unit) => r' = r) (fun _ t => rc_W Y sh rf σ' t.heap) (rc_A sh sz)) 0 0 (rc_A sh sz) := by
  refine rc_ofWF (cc := cJ5_isLatin1_aae02) (maxL := 1) (ret := (some .boolean)) (by decide +kernel) rfl ?_
  intro p e s m args below meth c s₁ B hml hv
  obtain ⟨rfl, hsz, hW, hK, hE⟩ := hv
  have hx := B.exec
  have hb := B.bytes
  have hr := B.returns
  have hts : ∀ w ∈ rc_big, w.before _ s = true := fun w h => atoms_spec (ws := Cond.code yJ5_isLatin1_aae02 cJ5_isLatin1_aae02 1 (some .boolean) :: rc_big) B.pre w (List.mem_cons_of_mem _ h)
  have hown : s.vm.findClass RJ5 = some m.cls := findClass_of_methodNamed B.named
  have hlocks := B.notSynchronized
  clear B
  subst hsz
  have hS : va_S (rc_A sh s.heap.size) s.heap s.heap [] := va_S.rf
  have hl := lv_entry ([.ref a0]) (n := 1) (Nat.le_of_ble_eq_true rfl)
  rw [lg_entry_eq]
  generalize (lg_sl ([.ref a0]) ++ List.replicate (1 - (lg_sl ([.ref a0])).length) Slot.unset).toArray = ls at hl ⊢
  have hl : lv_has ls 1 [(0, .ref a0)] := hl
  unfold f_J5_isLatin1_aae02 at hm
  refine rc_cs hx hb hT hE hS hown (hts _ tw_2_58) dJ5_isLatin1_aae02_0 ?_
  refine lv_if_eq (tgt := 17) hx hb dJ5_isLatin1_aae02_3 (by decide) (fun c9 => absurd c9 (by decide)) (fun _ => ?_)
  refine lv_aload_n hx hb dJ5_isLatin1_aae02_6 rfl (lv_at hl 0 rfl) ?_
  refine rg_11_1 hx hb hts hown hK hW h0 tw_2_68 dJ5_isLatin1_aae02_7 ?_
  refine lv_if_ne (tgt := 17) hx hb dJ5_isLatin1_aae02_10 (by decide) (fun c_1 => ?_) (fun c_1 => ?_)
  · replace hm := rc_f hm c_1
    refine lv_iconst (v := 0) hx hb dJ5_isLatin1_aae02_17 (by decide) ?_
    exact rc_ezret hx hb hr hlocks hW hS (Nat.le_of_ble_eq_true rfl) (Nat.le_of_ble_eq_true rfl) rfl hm dJ5_isLatin1_aae02_18
  · replace hm := rc_t hm c_1
    refine lv_iconst (v := 1) hx hb dJ5_isLatin1_aae02_13 (by decide) ?_
    refine lv_goto (tgt := 18) hx hb dJ5_isLatin1_aae02_14 (by decide) ?_
    exact rc_ezret hx hb hr hlocks hW hS (Nat.le_of_ble_eq_true rfl) (Nat.le_of_ble_eq_true rfl) rfl hm dJ5_isLatin1_aae02_18
set_option maxHeartbeats 4000000 in
set_option maxRecDepth 100000 in
theorem k_J5_length_8abf5 (l : Launch) {Y : rc_Y} {sh : Nat → Nat} {rf : rc_F} (hT : rc_T Y sh rf) (a0 : Nat) (h0 : sh a0 = 11) (sz : Nat) (σ σ' : rc_S) (r : Int32) (hm : f_J5_length_8abf5 rf a0 σ = some (r, σ')) : Met l yJ5_length_8abf5 (Cond.code yJ5_length_8abf5 cJ5_length_8abf5 1 (some .int) :: rc_big) ({ frames := 0, cells := 0, slots := 0, locals := 0 } : Room) (rc_P Y sh rf σ sz [.ref a0]) (va_Qi (fun (r' : Int32) (_ : Unit) => r' = r) (fun _ t => rc_W Y sh rf σ' t.heap) (rc_A sh sz)) 0 0 (rc_A sh sz) := by
  refine rc_ofWF (cc := cJ5_length_8abf5) (maxL := 1) (ret := (some .int)) (by decide +kernel) rfl ?_
  intro p e s m args below meth c s₁ B hml hv
  obtain ⟨rfl, hsz, hW, hK, hE⟩ := hv
  have hx := B.exec
  have hb := B.bytes
  have hr := B.returns
  have hts : ∀ w ∈ rc_big, w.before _ s = true := fun w h => atoms_spec (ws := Cond.code yJ5_length_8abf5 cJ5_length_8abf5 1 (some .int) :: rc_big) B.pre w (List.mem_cons_of_mem _ h)
  have hown : s.vm.findClass RJ5 = some m.cls := findClass_of_methodNamed B.named
  have hlocks := B.notSynchronized
  clear B
  subst hsz
  have hS : va_S (rc_A sh s.heap.size) s.heap s.heap [] := va_S.rf
  have hl := lv_entry ([.ref a0]) (n := 1) (Nat.le_of_ble_eq_true rfl)
  rw [lg_entry_eq]
  generalize (lg_sl ([.ref a0]) ++ List.replicate (1 - (lg_sl ([.ref a0])).length) Slot.unset).toArray = ls at hl ⊢
  have hl : lv_has ls 1 [(0, .ref a0)] := hl
  unfold f_J5_length_8abf5 at hm
  refine lv_aload_n hx hb dJ5_length_8abf5_0 rfl (lv_at hl 0 rfl) ?_
  refine rg_11_3 hx hb hts hown hK hW h0 tw_2_71 dJ5_length_8abf5_1 ?_
  exact rc_eiret hx hb hr hlocks hW hS (Nat.le_of_ble_eq_true rfl) (Nat.le_of_ble_eq_true rfl) hm dJ5_length_8abf5_4
set_option maxHeartbeats 4000000 in
set_option maxRecDepth 100000 in
theorem k_J5_ensureCapacityInternal_d00df (l : Launch) {Y : rc_Y} {sh : Nat → Nat} {rf : rc_F} (hT : rc_T Y sh rf) (a0 : Nat) (u1 : Int32) (h0 : sh a0 = 11) (sz : Nat) (σ σ' : rc_S) (r : Unit) (hm : f_J5_ensureCapacityInternal_d00df rf a0 u1 σ = some (r, σ')) : Met l yJ5_ensureCapacityInternal_d00df (Cond.code yJ5_ensureCapacityInternal_d00df cJ5_ensureCapacityInternal_d00df 3 none :: rc_big) ({ frames := 0, cells := 0, slots := 0, locals := 0 } : Room) (rc_P Y sh rf σ sz [.ref a0, .int u1]) (va_Qv (fun (_ : Unit) => True) (fun _ t => rc_W Y sh rf σ' t.heap) (rc_A sh sz)) 0 0 (rc_A sh sz) := by
  refine rc_ofWF (cc := cJ5_ensureCapacityInternal_d00df) (maxL := 3) (ret := none) (by decide +kernel) rfl ?_
  intro p e s m args below meth c s₁ B hml hv
  obtain ⟨rfl, hsz, hW, hK, hE⟩ := hv
  have hx := B.exec
  have hb := B.bytes
  have hr := B.returns
  have hts : ∀ w ∈ rc_big, w.before _ s = true := fun w h => atoms_spec (ws := Cond.code yJ5_ensureCapacityInternal_d00df cJ5_ensureCapacityInternal_d00df 3 none :: rc_big) B.pre w (List.mem_cons_of_mem _ h)
  have hown : s.vm.findClass RJ5 = some m.cls := findClass_of_methodNamed B.named
  have hlocks := B.notSynchronized
  clear B
  subst hsz
  have hS : va_S (rc_A sh s.heap.size) s.heap s.heap [] := va_S.rf
  have hl := lv_entry ([.ref a0, .int u1]) (n := 3) (Nat.le_of_ble_eq_true rfl)
  rw [lg_entry_eq]
  generalize (lg_sl ([.ref a0, .int u1]) ++ List.replicate (3 - (lg_sl ([.ref a0, .int u1])).length) Slot.unset).toArray = ls at hl ⊢
  have hl : lv_has ls 3 [(0, .ref a0), (1, .int u1)] := hl
  unfold f_J5_ensureCapacityInternal_d00df at hm
  refine lv_aload_n hx hb dJ5_ensureCapacityInternal_d00df_0 rfl (lv_at hl 0 rfl) ?_
  refine rg_11_0 hx hb hts hown hK hW h0 tw_2_67 dJ5_ensureCapacityInternal_d00df_1 ?_
  refine rc_alen (v := 16) hx hb hK hW (rc_t_11_0 hT h0) (by decide) rfl 3 rfl rfl dJ5_ensureCapacityInternal_d00df_4 ?_
  refine lv_aload_n hx hb dJ5_ensureCapacityInternal_d00df_5 rfl (lv_at hl 0 rfl) ?_
  refine rg_11_1 hx hb hts hown hK hW h0 tw_2_68 dJ5_ensureCapacityInternal_d00df_6 ?_
  refine lv_ishr hx hb dJ5_ensureCapacityInternal_d00df_9 ?_
  refine lv_topi (fun v2_1 ev => ?_)
  replace hm := rc_lt_at hm ev
  clear ev
  refine lv_istore_n (lv' := [(2, .int v2_1), (0, .ref a0), (1, .int u1)]) hx hb dJ5_ensureCapacityInternal_d00df_10 rfl hl (by decide) rfl (fun ls hl => ?_)
  refine lv_iload_n hx hb dJ5_ensureCapacityInternal_d00df_11 rfl (lv_at hl 2 rfl) ?_
  refine lv_iload_n hx hb dJ5_ensureCapacityInternal_d00df_12 rfl (lv_at hl 0 rfl) ?_
  refine lv_isub hx hb dJ5_ensureCapacityInternal_d00df_13 ?_
  refine lv_if_le (tgt := 38) hx hb dJ5_ensureCapacityInternal_d00df_14 (by decide) (fun c_2 => ?_) (fun c_2 => ?_)
  · replace hm := rc_t hm c_2
    exact rc_evret hx hb hr hlocks hW hS (Nat.le_of_ble_eq_true rfl) (Nat.le_of_ble_eq_true rfl) hm dJ5_ensureCapacityInternal_d00df_38
  · replace hm := rc_f hm c_2
    cases hm
set_option maxHeartbeats 4000000 in
set_option maxRecDepth 100000 in
theorem k_J6_stringSize_0f7a4 (l : Launch) {Y : rc_Y} {sh : Nat → Nat} {rf : rc_F} (hT : rc_T Y sh rf) (u0 : Int32) (sz : Nat) (σ σ' : rc_S) (r : Int32) (hm : f_J6_stringSize_0f7a4 rf u0 σ = some (r, σ')) : Met l yJ6_stringSize_0f7a4 (Cond.code yJ6_stringSize_0f7a4 cJ6_stringSize_0f7a4 4 (some .int) :: rc_big) ({ frames := 0, cells := 0, slots := 0, locals := 0 } : Room) (rc_P Y sh rf σ sz [.int u0]) (va_Qi (fun (r' : Int32) (_ : Unit) => r' = r) (fun _ t => rc_W Y sh rf σ' t.heap) (rc_A sh sz)) 0 0 (rc_A sh sz) := by
  refine rc_ofWF (cc := cJ6_stringSize_0f7a4) (maxL := 4) (ret := (some .int)) (by decide +kernel) rfl ?_
  intro p e s m args below meth c s₁ B hml hv
  obtain ⟨rfl, hsz, hW, hK, hE⟩ := hv
  have hx := B.exec
  have hb := B.bytes
  have hr := B.returns
  have hts : ∀ w ∈ rc_big, w.before _ s = true := fun w h => atoms_spec (ws := Cond.code yJ6_stringSize_0f7a4 cJ6_stringSize_0f7a4 4 (some .int) :: rc_big) B.pre w (List.mem_cons_of_mem _ h)
  have hown : s.vm.findClass RJ6 = some m.cls := findClass_of_methodNamed B.named
  have hlocks := B.notSynchronized
  clear B
  subst hsz
  have hS : va_S (rc_A sh s.heap.size) s.heap s.heap [] := va_S.rf
  have hl := lv_entry ([.int u0]) (n := 4) (Nat.le_of_ble_eq_true rfl)
  rw [lg_entry_eq]
  generalize (lg_sl ([.int u0]) ++ List.replicate (4 - (lg_sl ([.int u0])).length) Slot.unset).toArray = ls at hl ⊢
  have hl : lv_has ls 4 [(0, .int u0)] := hl
  have lp_16 : ∀ (v0 : Int32) (v1 : Int32) (K : Int32 → Int32 → rc_S → Option (Int32 × rc_S)) (hKK : ∀ (v2 v3 : Int32) (σ : rc_S) (H : Heap) (locs : List Loc) (ls : Array Slot), K v2 v3 σ = some (r, σ') → rc_W Y sh rf σ H → va_S (rc_A sh s.heap.size) s.heap H locs → lv_has ls 4 [(1, .int v1)] → W p l e (headSpec (Cond.code yJ6_stringSize_0f7a4 cJ6_stringSize_0f7a4 4 (some .int) :: rc_big) ({ frames := 0, cells := 0, slots := 0, locals := 0 } : Room)).room s m (([.int u0] : List Value).toArray) below meth c H locs 0 0 (MQ below (va_Qi (fun (r' : Int32) (_ : Unit) => r' = r) (fun _ t => rc_W Y sh rf σ' t.heap) (rc_A sh s.heap.size)) ([.int u0] : List Value).toArray s 0 0 (rc_A sh s.heap.size)) (F0 m 42 ls [])) (n : Nat) (v2 v3 : Int32) (σ : rc_S) (H : Heap) (locs : List Loc) (ls : Array Slot), f_J6_stringSize_0f7a4_16 rf v0 v1 K n v2 v3 σ = some (r, σ') → rc_W Y sh rf σ H → va_S (rc_A sh s.heap.size) s.heap H locs → lv_has ls 4 [(0, .int v0), (1, .int v1), (2, .int v2), (3, .int v3)] → W p l e (headSpec (Cond.code yJ6_stringSize_0f7a4 cJ6_stringSize_0f7a4 4 (some .int) :: rc_big) ({ frames := 0, cells := 0, slots := 0, locals := 0 } : Room)).room s m (([.int u0] : List Value).toArray) below meth c H locs 0 0 (MQ below (va_Qi (fun (r' : Int32) (_ : Unit) => r' = r) (fun _ t => rc_W Y sh rf σ' t.heap) (rc_A sh s.heap.size)) ([.int u0] : List Value).toArray s 0 0 (rc_A sh s.heap.size)) (F0 m 16 ls []) := by
    intro v0 v1 K hKK n
    induction n with
    | zero =>
      intro v2 v3 σ H locs ls hm
      rw [f_J6_stringSize_0f7a4_16] at hm
      cases hm
    | succ n ih =>
      intro v2 v3 σ H locs ls hm hW hS hl
      rw [f_J6_stringSize_0f7a4_16] at hm
      refine lv_iload_n hx hb dJ6_stringSize_0f7a4_16 rfl (lv_at hl 3 rfl) ?_
      refine lv_bipush (v := 10) hx hb dJ6_stringSize_0f7a4_17 (by decide) ?_
      refine lv_icmp_ge (tgt := 42) hx hb dJ6_stringSize_0f7a4_19 (by decide) (fun c_4 => ?_) (fun c_4 => ?_)
      · replace hm := rc_t hm c_4
        exact hKK v2 v3 σ _ _ _ hm hW hS (lv_sub hl [1] rfl)
      · replace hm := rc_f hm c_4
        refine lv_iload_n hx hb dJ6_stringSize_0f7a4_22 rfl (lv_at hl 0 rfl) ?_
        refine lv_iload_n hx hb dJ6_stringSize_0f7a4_23 rfl (lv_at hl 2 rfl) ?_
        refine lv_icmp_le (tgt := 31) hx hb dJ6_stringSize_0f7a4_24 (by decide) (fun c_3 => ?_) (fun c_3 => ?_)
        · replace hm := rc_t hm c_3
          refine lv_bipush (v := 10) hx hb dJ6_stringSize_0f7a4_31 (by decide) ?_
          refine lv_iload_n hx hb dJ6_stringSize_0f7a4_33 rfl (lv_at hl 2 rfl) ?_
          refine lv_imul hx hb dJ6_stringSize_0f7a4_34 ?_
          refine lv_topi (fun v2_1 ev => ?_)
          replace hm := rc_lt_at hm ev
          clear ev
          refine lv_istore_n (lv' := [(2, .int v2_1), (0, .int v0), (1, .int v1), (3, .int v3)]) hx hb dJ6_stringSize_0f7a4_35 rfl hl (by decide) rfl (fun ls hl => ?_)
          obtain ⟨v3_2, ev⟩ : ∃ y : Int32, y = (v3 + 1) := ⟨_, rfl⟩
          replace hm := rc_lt_at hm ev
          refine lv_iinc (v := v3_2) (lv' := [(3, .int v3_2), (2, .int v2_1), (0, .int v0), (1, .int v1)]) hx hb dJ6_stringSize_0f7a4_36 hl (k := 3) rfl (by rw [ev]; rfl) (by decide) rfl (fun ls hl => ?_)
          clear ev
          refine lv_goto (tgt := 16) hx hb dJ6_stringSize_0f7a4_39 (by decide) ?_
          exact ih v2_1 v3_2 σ _ _ _ hm hW hS (lv_sub hl [2, 3, 1, 0] rfl)
        · replace hm := rc_f hm c_3
          refine lv_iload_n hx hb dJ6_stringSize_0f7a4_27 rfl (lv_at hl 3 rfl) ?_
          refine lv_iload_n hx hb dJ6_stringSize_0f7a4_28 rfl (lv_at hl 1 rfl) ?_
          refine lv_iadd hx hb dJ6_stringSize_0f7a4_29 ?_
          exact rc_eiret hx hb hr hlocks hW hS (Nat.le_of_ble_eq_true rfl) (Nat.le_of_ble_eq_true rfl) hm dJ6_stringSize_0f7a4_30
  unfold f_J6_stringSize_0f7a4 at hm
  refine lv_iconst (v := 1) hx hb dJ6_stringSize_0f7a4_0 (by decide) ?_
  refine lv_istore_n (lv' := [(1, .int (1 : Int32)), (0, .int u0)]) hx hb dJ6_stringSize_0f7a4_1 rfl hl (by decide) rfl (fun ls hl => ?_)
  refine lv_iload_n hx hb dJ6_stringSize_0f7a4_2 rfl (lv_at hl 1 rfl) ?_
  refine lv_if_lt (tgt := 11) hx hb dJ6_stringSize_0f7a4_3 (by decide) (fun c_12 => ?_) (fun c_12 => ?_)
  · replace hm := rc_t hm c_12
    refine lv_bipush (v := (-10)) hx hb dJ6_stringSize_0f7a4_11 (by decide) ?_
    refine lv_istore_n (lv' := [(2, .int (-10 : Int32)), (1, .int (1 : Int32)), (0, .int u0)]) hx hb dJ6_stringSize_0f7a4_13 rfl hl (by decide) rfl (fun ls hl => ?_)
    refine lv_iconst (v := 1) hx hb dJ6_stringSize_0f7a4_14 (by decide) ?_
    refine lv_istore_n (lv' := [(3, .int (1 : Int32)), (2, .int (-10 : Int32)), (1, .int (1 : Int32)), (0, .int u0)]) hx hb dJ6_stringSize_0f7a4_15 rfl hl (by decide) rfl (fun ls hl => ?_)
    refine lp_16 u0 (1 : Int32) _ (fun v2_5 v3_6 σ_7 H locs ls hm hW hS hl => ?_) rc_fu (-10 : Int32) (1 : Int32) σ _ _ _ hm hW hS (lv_sub hl [3, 2, 1, 0] rfl)
    refine lv_bipush (v := 10) hx hb dJ6_stringSize_0f7a4_42 (by decide) ?_
    refine lv_iload_n hx hb dJ6_stringSize_0f7a4_44 rfl (lv_at hl 0 rfl) ?_
    refine lv_iadd hx hb dJ6_stringSize_0f7a4_45 ?_
    exact rc_eiret hx hb hr hlocks hW hS (Nat.le_of_ble_eq_true rfl) (Nat.le_of_ble_eq_true rfl) hm dJ6_stringSize_0f7a4_46
  · replace hm := rc_f hm c_12
    refine lv_iconst (v := 0) hx hb dJ6_stringSize_0f7a4_6 (by decide) ?_
    refine lv_istore_n (lv' := [(1, .int (0 : Int32)), (0, .int u0)]) hx hb dJ6_stringSize_0f7a4_7 rfl hl (by decide) rfl (fun ls hl => ?_)
    refine lv_iload_n hx hb dJ6_stringSize_0f7a4_8 rfl (lv_at hl 1 rfl) ?_
    refine lv_ineg hx hb dJ6_stringSize_0f7a4_9 ?_
    refine lv_topi (fun v0_8 ev => ?_)
    replace hm := rc_lt_at hm ev
    clear ev
    refine lv_istore_n (lv' := [(0, .int v0_8), (1, .int (0 : Int32))]) hx hb dJ6_stringSize_0f7a4_10 rfl hl (by decide) rfl (fun ls hl => ?_)
    refine lv_bipush (v := (-10)) hx hb dJ6_stringSize_0f7a4_11 (by decide) ?_
    refine lv_istore_n (lv' := [(2, .int (-10 : Int32)), (0, .int v0_8), (1, .int (0 : Int32))]) hx hb dJ6_stringSize_0f7a4_13 rfl hl (by decide) rfl (fun ls hl => ?_)
    refine lv_iconst (v := 1) hx hb dJ6_stringSize_0f7a4_14 (by decide) ?_
    refine lv_istore_n (lv' := [(3, .int (1 : Int32)), (2, .int (-10 : Int32)), (0, .int v0_8), (1, .int (0 : Int32))]) hx hb dJ6_stringSize_0f7a4_15 rfl hl (by decide) rfl (fun ls hl => ?_)
    refine lp_16 v0_8 (0 : Int32) _ (fun v2_9 v3_10 σ_11 H locs ls hm hW hS hl => ?_) rc_fu (-10 : Int32) (1 : Int32) σ _ _ _ hm hW hS (lv_sub hl [2, 3, 1, 0] rfl)
    refine lv_bipush (v := 10) hx hb dJ6_stringSize_0f7a4_42 (by decide) ?_
    refine lv_iload_n hx hb dJ6_stringSize_0f7a4_44 rfl (lv_at hl 0 rfl) ?_
    refine lv_iadd hx hb dJ6_stringSize_0f7a4_45 ?_
    exact rc_eiret hx hb hr hlocks hW hS (Nat.le_of_ble_eq_true rfl) (Nat.le_of_ble_eq_true rfl) hm dJ6_stringSize_0f7a4_46
set_option maxHeartbeats 4000000 in
set_option maxRecDepth 100000 in
theorem k_J6_getChars_ba4f3 (l : Launch) {Y : rc_Y} {sh : Nat → Nat} {rf : rc_F} (hT : rc_T Y sh rf) (u0 : Int32) (u1 : Int32) (q2 : Nat) (hq2 : sh q2 = 24) (sz : Nat) (σ σ' : rc_S) (r : Int32) (hm : f_J6_getChars_ba4f3 rf u0 u1 q2 σ = some (r, σ')) : Met l yJ6_getChars_ba4f3 (Cond.code yJ6_getChars_ba4f3 cJ6_getChars_ba4f3 7 (some .int) :: rc_big) ({ frames := 0, cells := 0, slots := 0, locals := 0 } : Room) (rc_P Y sh rf σ sz [.int u0, .int u1, .ref q2]) (va_Qi (fun (r' : Int32) (_ : Unit) => r' = r) (fun _ t => rc_W Y sh rf σ' t.heap) (rc_A sh sz)) 0 0 (rc_A sh sz) := by
  refine rc_ofWF (cc := cJ6_getChars_ba4f3) (maxL := 7) (ret := (some .int)) (by decide +kernel) rfl ?_
  intro p e s m args below meth c s₁ B hml hv
  obtain ⟨rfl, hsz, hW, hK, hE⟩ := hv
  have hx := B.exec
  have hb := B.bytes
  have hr := B.returns
  have hts : ∀ w ∈ rc_big, w.before _ s = true := fun w h => atoms_spec (ws := Cond.code yJ6_getChars_ba4f3 cJ6_getChars_ba4f3 7 (some .int) :: rc_big) B.pre w (List.mem_cons_of_mem _ h)
  have hown : s.vm.findClass RJ6 = some m.cls := findClass_of_methodNamed B.named
  have hlocks := B.notSynchronized
  clear B
  subst hsz
  have hS : va_S (rc_A sh s.heap.size) s.heap s.heap [] := va_S.rf
  have hl := lv_entry ([.int u0, .int u1, .ref q2]) (n := 7) (Nat.le_of_ble_eq_true rfl)
  rw [lg_entry_eq]
  generalize (lg_sl ([.int u0, .int u1, .ref q2]) ++ List.replicate (7 - (lg_sl ([.int u0, .int u1, .ref q2])).length) Slot.unset).toArray = ls at hl ⊢
  have hl : lv_has ls 7 [(0, .int u0), (1, .int u1), (2, .ref q2)] := hl
  have lp_22 : ∀ (r2 : Nat) (v6 : Int32) (hr2 : sh r2 = 24) (K : Int32 → Int32 → rc_S → Option (Int32 × rc_S)) (hKK : ∀ (v0 v5 : Int32) (σ : rc_S) (H : Heap) (locs : List Loc) (ls : Array Slot), K v0 v5 σ = some (r, σ') → rc_W Y sh rf σ H → va_S (rc_A sh s.heap.size) s.heap H locs → lv_has ls 7 [(0, .int v0), (2, .ref r2), (5, .int v5), (6, .int v6)] → W p l e (headSpec (Cond.code yJ6_getChars_ba4f3 cJ6_getChars_ba4f3 7 (some .int) :: rc_big) ({ frames := 0, cells := 0, slots := 0, locals := 0 } : Room)).room s m (([.int u0, .int u1, .ref q2] : List Value).toArray) below meth c H locs 0 0 (MQ below (va_Qi (fun (r' : Int32) (_ : Unit) => r' = r) (fun _ t => rc_W Y sh rf σ' t.heap) (rc_A sh s.heap.size)) ([.int u0, .int u1, .ref q2] : List Value).toArray s 0 0 (rc_A sh s.heap.size)) (F0 m 72 ls [])) (n : Nat) (v0 v5 : Int32) (σ : rc_S) (H : Heap) (locs : List Loc) (ls : Array Slot), f_J6_getChars_ba4f3_22 rf r2 v6 K n v0 v5 σ = some (r, σ') → rc_W Y sh rf σ H → va_S (rc_A sh s.heap.size) s.heap H locs → lv_has ls 7 [(0, .int v0), (2, .ref r2), (5, .int v5), (6, .int v6)] → W p l e (headSpec (Cond.code yJ6_getChars_ba4f3 cJ6_getChars_ba4f3 7 (some .int) :: rc_big) ({ frames := 0, cells := 0, slots := 0, locals := 0 } : Room)).room s m (([.int u0, .int u1, .ref q2] : List Value).toArray) below meth c H locs 0 0 (MQ below (va_Qi (fun (r' : Int32) (_ : Unit) => r' = r) (fun _ t => rc_W Y sh rf σ' t.heap) (rc_A sh s.heap.size)) ([.int u0, .int u1, .ref q2] : List Value).toArray s 0 0 (rc_A sh s.heap.size)) (F0 m 22 ls []) := by
    intro r2 v6 hr2 K hKK n
    induction n with
    | zero =>
      intro v0 v5 σ H locs ls hm
      rw [f_J6_getChars_ba4f3_22] at hm
      cases hm
    | succ n ih =>
      intro v0 v5 σ H locs ls hm hW hS hl
      rw [f_J6_getChars_ba4f3_22] at hm
      refine lv_iload_n hx hb dJ6_getChars_ba4f3_22 rfl (lv_at hl 0 rfl) ?_
      refine lv_bipush (v := (-100)) hx hb dJ6_getChars_ba4f3_23 (by decide) ?_
      refine lv_icmp_gt (tgt := 72) hx hb dJ6_getChars_ba4f3_25 (by decide) (fun c_14 => ?_) (fun c_14 => ?_)
      · replace hm := rc_t hm c_14
        exact hKK v0 v5 σ _ _ _ hm hW hS (lv_sub hl [0, 1, 2, 3] rfl)
      · replace hm := rc_f hm c_14
        refine lv_iload_n hx hb dJ6_getChars_ba4f3_28 rfl (lv_at hl 0 rfl) ?_
        refine lv_bipush (v := 100) hx hb dJ6_getChars_ba4f3_29 (by decide) ?_
        refine lv_idiv hx hb dJ6_getChars_ba4f3_31 (by decide) ?_
        refine lv_topi (fun v3_2 ev => ?_)
        replace hm := rc_lt_at hm ev
        clear ev
        refine lv_istore_n (lv' := [(3, .int v3_2), (0, .int v0), (2, .ref r2), (5, .int v5), (6, .int v6)]) hx hb dJ6_getChars_ba4f3_32 rfl hl (by decide) rfl (fun ls hl => ?_)
        refine lv_iload_n hx hb dJ6_getChars_ba4f3_33 rfl (lv_at hl 0 rfl) ?_
        refine lv_bipush (v := 100) hx hb dJ6_getChars_ba4f3_34 (by decide) ?_
        refine lv_imul hx hb dJ6_getChars_ba4f3_36 ?_
        refine lv_iload_n hx hb dJ6_getChars_ba4f3_37 rfl (lv_at hl 1 rfl) ?_
        refine lv_isub hx hb dJ6_getChars_ba4f3_38 ?_
        refine lv_topi (fun v4_3 ev => ?_)
        replace hm := rc_lt_at hm ev
        clear ev
        refine lv_istore (lv' := [(4, .int v4_3), (3, .int v3_2), (0, .int v0), (2, .ref r2), (5, .int v5), (6, .int v6)]) hx hb dJ6_getChars_ba4f3_39 hl (by decide) rfl (fun ls hl => ?_)
        refine lv_iload_n hx hb dJ6_getChars_ba4f3_41 rfl (lv_at hl 1 rfl) ?_
        refine lv_istore_n (lv' := [(0, .int v3_2), (4, .int v4_3), (3, .int v3_2), (2, .ref r2), (5, .int v5), (6, .int v6)]) hx hb dJ6_getChars_ba4f3_42 rfl hl (by decide) rfl (fun ls hl => ?_)
        refine lv_aload_n hx hb dJ6_getChars_ba4f3_43 rfl (lv_at hl 3 rfl) ?_
        obtain ⟨v5_4, ev⟩ : ∃ y : Int32, y = (v5 + (-1)) := ⟨_, rfl⟩
        replace hm := rc_lt_at hm ev
        refine lv_iinc (v := v5_4) (lv' := [(5, .int v5_4), (0, .int v3_2), (4, .int v4_3), (3, .int v3_2), (2, .ref r2), (6, .int v6)]) hx hb dJ6_getChars_ba4f3_44 hl (k := 4) rfl (by rw [ev]; rfl) (by decide) rfl (fun ls hl => ?_)
        clear ev
        refine lv_iload hx hb dJ6_getChars_ba4f3_47 (lv_at hl 0 rfl) ?_
        obtain ⟨t_5, hZ_5, hT_5⟩ := rc_E_d1 hE
        refine va_gets hx hb hZ_5 (rc_SB hT hE hS) hown (hts _ tw_5_28) (fun _ h => h) dJ6_getChars_ba4f3_49 ?_
        refine lv_iload hx hb dJ6_getChars_ba4f3_52 (lv_at hl 2 rfl) ?_
        have hi_6 := (rc_ix hm).1
        replace hm := (rc_ix hm).2
        refine va_tb hx hb hT_5 (rc_SB hT hE hS) hi_6 (v := .int (rc_d1 (v4_3.toNatClampNeg))) rfl dJ6_getChars_ba4f3_54 ?_
        have hi_7 := (rc_ix hm).1
        replace hm := (rc_ix hm).2
        refine rc_bastj (j := v5_4.toNatClampNeg) hx hb hK hW hS hr2 (by decide) (fun _ => rfl) hi_7 rfl dJ6_getChars_ba4f3_55 (fun σ_8 H locs eσ hW hS => ?_)
        replace hm := rc_lt_at hm eσ
        clear eσ
        refine lv_aload_n hx hb dJ6_getChars_ba4f3_56 rfl (lv_at hl 4 rfl) ?_
        obtain ⟨v5_9, ev⟩ : ∃ y : Int32, y = (v5_4 + (-1)) := ⟨_, rfl⟩
        replace hm := rc_lt_at hm ev
        refine lv_iinc (v := v5_9) (lv' := [(5, .int v5_9), (0, .int v3_2), (4, .int v4_3), (3, .int v3_2), (2, .ref r2), (6, .int v6)]) hx hb dJ6_getChars_ba4f3_57 hl (k := 0) rfl (by rw [ev]; rfl) (by decide) rfl (fun ls hl => ?_)
        clear ev
        refine lv_iload hx hb dJ6_getChars_ba4f3_60 (lv_at hl 0 rfl) ?_
        obtain ⟨t_10, hZ_10, hT_10⟩ := rc_E_d10 hE
        refine va_gets hx hb hZ_10 (rc_SB hT hE hS) hown (hts _ tw_5_30) (fun _ h => h) dJ6_getChars_ba4f3_62 ?_
        refine lv_iload hx hb dJ6_getChars_ba4f3_65 (lv_at hl 2 rfl) ?_
        have hi_11 := (rc_ix hm).1
        replace hm := (rc_ix hm).2
        refine va_tb hx hb hT_10 (rc_SB hT hE hS) hi_11 (v := .int (rc_d10 (v4_3.toNatClampNeg))) rfl dJ6_getChars_ba4f3_67 ?_
        have hi_12 := (rc_ix hm).1
        replace hm := (rc_ix hm).2
        refine rc_bastj (j := v5_9.toNatClampNeg) hx hb hK hW hS hr2 (by decide) (fun _ => rfl) hi_12 rfl dJ6_getChars_ba4f3_68 (fun σ_13 H locs eσ hW hS => ?_)
        replace hm := rc_lt_at hm eσ
        clear eσ
        refine lv_goto (tgt := 22) hx hb dJ6_getChars_ba4f3_69 (by decide) ?_
        exact ih v3_2 v5_9 σ_13 _ _ _ hm hW hS (lv_sub hl [1, 4, 0, 5] rfl)
  unfold f_J6_getChars_ba4f3 at hm
  refine lv_iload_n hx hb dJ6_getChars_ba4f3_0 rfl (lv_at hl 1 rfl) ?_
  refine lv_istore (lv' := [(5, .int u1), (0, .int u0), (1, .int u1), (2, .ref q2)]) hx hb dJ6_getChars_ba4f3_1 hl (by decide) rfl (fun ls hl => ?_)
  refine lv_iload_n hx hb dJ6_getChars_ba4f3_3 rfl (lv_at hl 1 rfl) ?_
  refine lv_if_ge (tgt := 11) hx hb dJ6_getChars_ba4f3_4 (by decide) (fun c_49 => ?_) (fun c_49 => ?_)
  · replace hm := rc_t hm c_49
    refine lv_iconst (v := 0) hx hb dJ6_getChars_ba4f3_11 (by decide) ?_
    refine lv_istore (lv' := [(6, .int (0 : Int32)), (5, .int u1), (0, .int u0), (1, .int u1), (2, .ref q2)]) hx hb dJ6_getChars_ba4f3_12 hl (by decide) rfl (fun ls hl => ?_)
    refine lv_iload hx hb dJ6_getChars_ba4f3_14 (lv_at hl 0 rfl) ?_
    refine lv_if_ne (tgt := 22) hx hb dJ6_getChars_ba4f3_16 (by decide) (fun c9 => absurd c9 (by decide)) (fun _ => ?_)
    refine lv_iload_n hx hb dJ6_getChars_ba4f3_19 rfl (lv_at hl 2 rfl) ?_
    refine lv_ineg hx hb dJ6_getChars_ba4f3_20 ?_
    refine lv_topi (fun v0_1 ev => ?_)
    replace hm := rc_lt_at hm ev
    clear ev
    refine lv_istore_n (lv' := [(0, .int v0_1), (6, .int (0 : Int32)), (5, .int u1), (1, .int u1), (2, .ref q2)]) hx hb dJ6_getChars_ba4f3_21 rfl hl (by decide) rfl (fun ls hl => ?_)
    refine lp_22 q2 (0 : Int32) hq2 _ (fun v0_15 v5_16 σ_17 H locs ls hm hW hS hl => ?_) rc_fu v0_1 u1 σ _ _ _ hm hW hS (lv_sub hl [0, 4, 2, 1] rfl)
    refine lv_aload_n hx hb dJ6_getChars_ba4f3_72 rfl (lv_at hl 1 rfl) ?_
    obtain ⟨v5_18, ev⟩ : ∃ y : Int32, y = (v5_16 + (-1)) := ⟨_, rfl⟩
    replace hm := rc_lt_at hm ev
    refine lv_iinc (v := v5_18) (lv' := [(5, .int v5_18), (0, .int v0_15), (2, .ref q2), (6, .int (0 : Int32))]) hx hb dJ6_getChars_ba4f3_73 hl (k := 2) rfl (by rw [ev]; rfl) (by decide) rfl (fun ls hl => ?_)
    clear ev
    refine lv_iload hx hb dJ6_getChars_ba4f3_76 (lv_at hl 0 rfl) ?_
    obtain ⟨t_19, hZ_19, hT_19⟩ := rc_E_d1 hE
    refine va_gets hx hb hZ_19 (rc_SB hT hE hS) hown (hts _ tw_5_28) (fun _ h => h) dJ6_getChars_ba4f3_78 ?_
    refine lv_iload_n hx hb dJ6_getChars_ba4f3_81 rfl (lv_at hl 1 rfl) ?_
    refine lv_ineg hx hb dJ6_getChars_ba4f3_82 ?_
    have hi_20 := (rc_ix hm).1
    replace hm := (rc_ix hm).2
    refine va_tb hx hb hT_19 (rc_SB hT hE hS) hi_20 (v := .int (rc_d1 ((-v0_15).toNatClampNeg))) rfl dJ6_getChars_ba4f3_83 ?_
    have hi_21 := (rc_ix hm).1
    replace hm := (rc_ix hm).2
    refine rc_bastj (j := v5_18.toNatClampNeg) hx hb hK hW hS hq2 (by decide) (fun _ => rfl) hi_21 rfl dJ6_getChars_ba4f3_84 (fun σ_22 H locs eσ hW hS => ?_)
    replace hm := rc_lt_at hm eσ
    clear eσ
    refine lv_iload_n hx hb dJ6_getChars_ba4f3_85 rfl (lv_at hl 1 rfl) ?_
    refine lv_bipush (v := (-9)) hx hb dJ6_getChars_ba4f3_86 (by decide) ?_
    refine lv_icmp_ge (tgt := 104) hx hb dJ6_getChars_ba4f3_88 (by decide) (fun c_28 => ?_) (fun c_28 => ?_)
    · replace hm := rc_t hm c_28
      refine lv_iload hx hb dJ6_getChars_ba4f3_104 (lv_at hl 3 rfl) ?_
      refine lv_if_eq (tgt := 118) hx hb dJ6_getChars_ba4f3_106 (by decide) (fun _ => ?_) (fun c9 => absurd c9 (by decide))
      refine lv_iload hx hb dJ6_getChars_ba4f3_118 (lv_at hl 0 rfl) ?_
      exact rc_eiret hx hb hr hlocks hW hS (Nat.le_of_ble_eq_true rfl) (Nat.le_of_ble_eq_true rfl) hm dJ6_getChars_ba4f3_120
    · replace hm := rc_f hm c_28
      refine lv_aload_n hx hb dJ6_getChars_ba4f3_91 rfl (lv_at hl 2 rfl) ?_
      obtain ⟨v5_23, ev⟩ : ∃ y : Int32, y = (v5_18 + (-1)) := ⟨_, rfl⟩
      replace hm := rc_lt_at hm ev
      refine lv_iinc (v := v5_23) (lv' := [(5, .int v5_23), (0, .int v0_15), (2, .ref q2), (6, .int (0 : Int32))]) hx hb dJ6_getChars_ba4f3_92 hl (k := 0) rfl (by rw [ev]; rfl) (by decide) rfl (fun ls hl => ?_)
      clear ev
      refine lv_iload hx hb dJ6_getChars_ba4f3_95 (lv_at hl 0 rfl) ?_
      obtain ⟨t_24, hZ_24, hT_24⟩ := rc_E_d10 hE
      refine va_gets hx hb hZ_24 (rc_SB hT hE hS) hown (hts _ tw_5_30) (fun _ h => h) dJ6_getChars_ba4f3_97 ?_
      refine lv_iload_n hx hb dJ6_getChars_ba4f3_100 rfl (lv_at hl 1 rfl) ?_
      refine lv_ineg hx hb dJ6_getChars_ba4f3_101 ?_
      have hi_25 := (rc_ix hm).1
      replace hm := (rc_ix hm).2
      refine va_tb hx hb hT_24 (rc_SB hT hE hS) hi_25 (v := .int (rc_d10 ((-v0_15).toNatClampNeg))) rfl dJ6_getChars_ba4f3_102 ?_
      have hi_26 := (rc_ix hm).1
      replace hm := (rc_ix hm).2
      refine rc_bastj (j := v5_23.toNatClampNeg) hx hb hK hW hS hq2 (by decide) (fun _ => rfl) hi_26 rfl dJ6_getChars_ba4f3_103 (fun σ_27 H locs eσ hW hS => ?_)
      replace hm := rc_lt_at hm eσ
      clear eσ
      refine lv_iload hx hb dJ6_getChars_ba4f3_104 (lv_at hl 3 rfl) ?_
      refine lv_if_eq (tgt := 118) hx hb dJ6_getChars_ba4f3_106 (by decide) (fun _ => ?_) (fun c9 => absurd c9 (by decide))
      refine lv_iload hx hb dJ6_getChars_ba4f3_118 (lv_at hl 0 rfl) ?_
      exact rc_eiret hx hb hr hlocks hW hS (Nat.le_of_ble_eq_true rfl) (Nat.le_of_ble_eq_true rfl) hm dJ6_getChars_ba4f3_120
  · replace hm := rc_f hm c_49
    refine lv_iconst (v := 1) hx hb dJ6_getChars_ba4f3_7 (by decide) ?_
    refine lv_goto (tgt := 12) hx hb dJ6_getChars_ba4f3_8 (by decide) ?_
    refine lv_istore (lv' := [(6, .int (1 : Int32)), (5, .int u1), (0, .int u0), (1, .int u1), (2, .ref q2)]) hx hb dJ6_getChars_ba4f3_12 hl (by decide) rfl (fun ls hl => ?_)
    refine lv_iload hx hb dJ6_getChars_ba4f3_14 (lv_at hl 0 rfl) ?_
    refine lv_if_ne (tgt := 22) hx hb dJ6_getChars_ba4f3_16 (by decide) (fun _ => ?_) (fun c9 => absurd c9 (by decide))
    refine lp_22 q2 (1 : Int32) hq2 _ (fun v0_29 v5_30 σ_31 H locs ls hm hW hS hl => ?_) rc_fu u0 u1 σ _ _ _ hm hW hS (lv_sub hl [2, 4, 1, 0] rfl)
    refine lv_aload_n hx hb dJ6_getChars_ba4f3_72 rfl (lv_at hl 1 rfl) ?_
    obtain ⟨v5_32, ev⟩ : ∃ y : Int32, y = (v5_30 + (-1)) := ⟨_, rfl⟩
    replace hm := rc_lt_at hm ev
    refine lv_iinc (v := v5_32) (lv' := [(5, .int v5_32), (0, .int v0_29), (2, .ref q2), (6, .int (1 : Int32))]) hx hb dJ6_getChars_ba4f3_73 hl (k := 2) rfl (by rw [ev]; rfl) (by decide) rfl (fun ls hl => ?_)
    clear ev
    refine lv_iload hx hb dJ6_getChars_ba4f3_76 (lv_at hl 0 rfl) ?_
    obtain ⟨t_33, hZ_33, hT_33⟩ := rc_E_d1 hE
    refine va_gets hx hb hZ_33 (rc_SB hT hE hS) hown (hts _ tw_5_28) (fun _ h => h) dJ6_getChars_ba4f3_78 ?_
    refine lv_iload_n hx hb dJ6_getChars_ba4f3_81 rfl (lv_at hl 1 rfl) ?_
    refine lv_ineg hx hb dJ6_getChars_ba4f3_82 ?_
    have hi_34 := (rc_ix hm).1
    replace hm := (rc_ix hm).2
    refine va_tb hx hb hT_33 (rc_SB hT hE hS) hi_34 (v := .int (rc_d1 ((-v0_29).toNatClampNeg))) rfl dJ6_getChars_ba4f3_83 ?_
    have hi_35 := (rc_ix hm).1
    replace hm := (rc_ix hm).2
    refine rc_bastj (j := v5_32.toNatClampNeg) hx hb hK hW hS hq2 (by decide) (fun _ => rfl) hi_35 rfl dJ6_getChars_ba4f3_84 (fun σ_36 H locs eσ hW hS => ?_)
    replace hm := rc_lt_at hm eσ
    clear eσ
    refine lv_iload_n hx hb dJ6_getChars_ba4f3_85 rfl (lv_at hl 1 rfl) ?_
    refine lv_bipush (v := (-9)) hx hb dJ6_getChars_ba4f3_86 (by decide) ?_
    refine lv_icmp_ge (tgt := 104) hx hb dJ6_getChars_ba4f3_88 (by decide) (fun c_48 => ?_) (fun c_48 => ?_)
    · replace hm := rc_t hm c_48
      refine lv_iload hx hb dJ6_getChars_ba4f3_104 (lv_at hl 3 rfl) ?_
      refine lv_if_eq (tgt := 118) hx hb dJ6_getChars_ba4f3_106 (by decide) (fun c9 => absurd c9 (by decide)) (fun _ => ?_)
      refine lv_aload_n hx hb dJ6_getChars_ba4f3_109 rfl (lv_at hl 2 rfl) ?_
      obtain ⟨v5_37, ev⟩ : ∃ y : Int32, y = (v5_32 + (-1)) := ⟨_, rfl⟩
      replace hm := rc_lt_at hm ev
      refine lv_iinc (v := v5_37) (lv' := [(5, .int v5_37), (0, .int v0_29), (2, .ref q2), (6, .int (1 : Int32))]) hx hb dJ6_getChars_ba4f3_110 hl (k := 0) rfl (by rw [ev]; rfl) (by decide) rfl (fun ls hl => ?_)
      clear ev
      refine lv_iload hx hb dJ6_getChars_ba4f3_113 (lv_at hl 0 rfl) ?_
      refine lv_bipush (v := 45) hx hb dJ6_getChars_ba4f3_115 (by decide) ?_
      have hi_38 := (rc_ix hm).1
      replace hm := (rc_ix hm).2
      refine rc_bastj (j := v5_37.toNatClampNeg) hx hb hK hW hS hq2 (by decide) (fun _ => rfl) hi_38 rfl dJ6_getChars_ba4f3_117 (fun σ_39 H locs eσ hW hS => ?_)
      replace hm := rc_lt_at hm eσ
      clear eσ
      refine lv_iload hx hb dJ6_getChars_ba4f3_118 (lv_at hl 0 rfl) ?_
      exact rc_eiret hx hb hr hlocks hW hS (Nat.le_of_ble_eq_true rfl) (Nat.le_of_ble_eq_true rfl) hm dJ6_getChars_ba4f3_120
    · replace hm := rc_f hm c_48
      refine lv_aload_n hx hb dJ6_getChars_ba4f3_91 rfl (lv_at hl 2 rfl) ?_
      obtain ⟨v5_40, ev⟩ : ∃ y : Int32, y = (v5_32 + (-1)) := ⟨_, rfl⟩
      replace hm := rc_lt_at hm ev
      refine lv_iinc (v := v5_40) (lv' := [(5, .int v5_40), (0, .int v0_29), (2, .ref q2), (6, .int (1 : Int32))]) hx hb dJ6_getChars_ba4f3_92 hl (k := 0) rfl (by rw [ev]; rfl) (by decide) rfl (fun ls hl => ?_)
      clear ev
      refine lv_iload hx hb dJ6_getChars_ba4f3_95 (lv_at hl 0 rfl) ?_
      obtain ⟨t_41, hZ_41, hT_41⟩ := rc_E_d10 hE
      refine va_gets hx hb hZ_41 (rc_SB hT hE hS) hown (hts _ tw_5_30) (fun _ h => h) dJ6_getChars_ba4f3_97 ?_
      refine lv_iload_n hx hb dJ6_getChars_ba4f3_100 rfl (lv_at hl 1 rfl) ?_
      refine lv_ineg hx hb dJ6_getChars_ba4f3_101 ?_
      have hi_42 := (rc_ix hm).1
      replace hm := (rc_ix hm).2
      refine va_tb hx hb hT_41 (rc_SB hT hE hS) hi_42 (v := .int (rc_d10 ((-v0_29).toNatClampNeg))) rfl dJ6_getChars_ba4f3_102 ?_
      have hi_43 := (rc_ix hm).1
      replace hm := (rc_ix hm).2
      refine rc_bastj (j := v5_40.toNatClampNeg) hx hb hK hW hS hq2 (by decide) (fun _ => rfl) hi_43 rfl dJ6_getChars_ba4f3_103 (fun σ_44 H locs eσ hW hS => ?_)
      replace hm := rc_lt_at hm eσ
      clear eσ
      refine lv_iload hx hb dJ6_getChars_ba4f3_104 (lv_at hl 3 rfl) ?_
      refine lv_if_eq (tgt := 118) hx hb dJ6_getChars_ba4f3_106 (by decide) (fun c9 => absurd c9 (by decide)) (fun _ => ?_)
      refine lv_aload_n hx hb dJ6_getChars_ba4f3_109 rfl (lv_at hl 2 rfl) ?_
      obtain ⟨v5_45, ev⟩ : ∃ y : Int32, y = (v5_40 + (-1)) := ⟨_, rfl⟩
      replace hm := rc_lt_at hm ev
      refine lv_iinc (v := v5_45) (lv' := [(5, .int v5_45), (0, .int v0_29), (2, .ref q2), (6, .int (1 : Int32))]) hx hb dJ6_getChars_ba4f3_110 hl (k := 0) rfl (by rw [ev]; rfl) (by decide) rfl (fun ls hl => ?_)
      clear ev
      refine lv_iload hx hb dJ6_getChars_ba4f3_113 (lv_at hl 0 rfl) ?_
      refine lv_bipush (v := 45) hx hb dJ6_getChars_ba4f3_115 (by decide) ?_
      have hi_46 := (rc_ix hm).1
      replace hm := (rc_ix hm).2
      refine rc_bastj (j := v5_45.toNatClampNeg) hx hb hK hW hS hq2 (by decide) (fun _ => rfl) hi_46 rfl dJ6_getChars_ba4f3_117 (fun σ_47 H locs eσ hW hS => ?_)
      replace hm := rc_lt_at hm eσ
      clear eσ
      refine lv_iload hx hb dJ6_getChars_ba4f3_118 (lv_at hl 0 rfl) ?_
      exact rc_eiret hx hb hr hlocks hW hS (Nat.le_of_ble_eq_true rfl) (Nat.le_of_ble_eq_true rfl) hm dJ6_getChars_ba4f3_120
set_option maxHeartbeats 4000000 in
set_option maxRecDepth 100000 in
theorem k_J5_setLength_d00df (l : Launch) {Y : rc_Y} {sh : Nat → Nat} {rf : rc_F} (hT : rc_T Y sh rf) (a0 : Nat) (u1 : Int32) (h0 : sh a0 = 11) (sz : Nat) (σ σ' : rc_S) (r : Unit) (hm : f_J5_setLength_d00df rf a0 u1 σ = some (r, σ')) : Met l yJ5_setLength_d00df (Cond.code yJ5_setLength_d00df cJ5_setLength_d00df 2 none :: rc_big) ({ frames := 1, cells := 0, slots := 0, locals := 22 } : Room) (rc_P Y sh rf σ sz [.ref a0, .int u1]) (va_Qv (fun (_ : Unit) => True) (fun _ t => rc_W Y sh rf σ' t.heap) (rc_A sh sz)) 0 0 (rc_A sh sz) := by
  refine rc_ofWF (cc := cJ5_setLength_d00df) (maxL := 2) (ret := none) (by decide +kernel) rfl ?_
  intro p e s m args below meth c s₁ B hml hv
  obtain ⟨rfl, hsz, hW, hK, hE⟩ := hv
  have hx := B.exec
  have hb := B.bytes
  have hr := B.returns
  have hts : ∀ w ∈ rc_big, w.before _ s = true := fun w h => atoms_spec (ws := Cond.code yJ5_setLength_d00df cJ5_setLength_d00df 2 none :: rc_big) B.pre w (List.mem_cons_of_mem _ h)
  have hown : s.vm.findClass RJ5 = some m.cls := findClass_of_methodNamed B.named
  have hlocks := B.notSynchronized
  clear B
  subst hsz
  have hS : va_S (rc_A sh s.heap.size) s.heap s.heap [] := va_S.rf
  have hl := lv_entry ([.ref a0, .int u1]) (n := 2) (Nat.le_of_ble_eq_true rfl)
  rw [lg_entry_eq]
  generalize (lg_sl ([.ref a0, .int u1]) ++ List.replicate (2 - (lg_sl ([.ref a0, .int u1])).length) Slot.unset).toArray = ls at hl ⊢
  have hl : lv_has ls 2 [(0, .ref a0), (1, .int u1)] := hl
  unfold f_J5_setLength_d00df at hm
  refine lv_iload_n hx hb dJ5_setLength_d00df_0 rfl (lv_at hl 1 rfl) ?_
  refine lv_if_ge (tgt := 13) hx hb dJ5_setLength_d00df_1 (by decide) (fun c_9 => ?_) (fun c_9 => ?_)
  · replace hm := rc_t hm c_9
    refine lv_aload_n hx hb dJ5_setLength_d00df_13 rfl (lv_at hl 0 rfl) ?_
    refine lv_iload_n hx hb dJ5_setLength_d00df_14 rfl (lv_at hl 1 rfl) ?_
    obtain ⟨w_1, σ_1, hc_1, hm0⟩ := rc_bd_inv hm
    clear hm
    refine rc_cv hS (va_runU (As := [.int u1]) (rest := []) ⟨hx, hb, hml, hown, hts⟩ (k_J5_ensureCapacityInternal_d00df l hT a0 u1 h0 s.heap.size _ _ _ hc_1) (va_cwU (owner := "java/lang/AbstractStringBuilder") 1 hts (rc_gU tw_4_149 tw_7_101 rc_xsel tw_4_151 tw_1_10 tw_4_152) rfl rfl rfl rfl (by decide +kernel) ⟨Nat.le_of_ble_eq_true rfl, Nat.le_of_ble_eq_true rfl⟩) (rc_preV hT hW hK hE hS h0 (by decide) rfl (q := (RJ4, TJ4, 4)) rfl [.int u1]) rfl rfl hl.1 rfl (lv_room (Nat.le_of_ble_eq_true rfl)) dJ5_setLength_d00df_15 ⟨Nat.le_of_ble_eq_true rfl, Nat.le_of_ble_eq_true rfl⟩) (fun H locs hW hS => ?_)
    have hm := hm0
    clear hm0 hc_1
    refine lv_aload_n hx hb dJ5_setLength_d00df_18 rfl (lv_at hl 0 rfl) ?_
    refine rg_11_3 hx hb hts hown hK hW h0 tw_2_71 dJ5_setLength_d00df_19 ?_
    refine lv_iload_n hx hb dJ5_setLength_d00df_22 rfl (lv_at hl 1 rfl) ?_
    refine lv_icmp_ge (tgt := 63) hx hb dJ5_setLength_d00df_23 (by decide) (fun c_8 => ?_) (fun c_8 => ?_)
    · replace hm := rc_t hm c_8
      refine lv_aload_n hx hb dJ5_setLength_d00df_63 rfl (lv_at hl 0 rfl) ?_
      refine rg_11_3 hx hb hts hown hK hW h0 tw_2_71 dJ5_setLength_d00df_64 ?_
      refine lv_iload_n hx hb dJ5_setLength_d00df_67 rfl (lv_at hl 1 rfl) ?_
      refine lv_icmp_le (tgt := 76) hx hb dJ5_setLength_d00df_68 (by decide) (fun c_5 => ?_) (fun c_5 => ?_)
      · replace hm := rc_t hm c_5
        refine lv_aload_n hx hb dJ5_setLength_d00df_76 rfl (lv_at hl 0 rfl) ?_
        refine lv_iload_n hx hb dJ5_setLength_d00df_77 rfl (lv_at hl 1 rfl) ?_
        refine rp_11_3 hx hb hts hown hK hW hS h0 tw_2_71 dJ5_setLength_d00df_78 (fun σ_2 H locs eσ hW hS => ?_)
        replace hm := rc_lt_at hm eσ
        clear eσ
        exact rc_evret hx hb hr hlocks hW hS (Nat.le_of_ble_eq_true rfl) (Nat.le_of_ble_eq_true rfl) hm dJ5_setLength_d00df_81
      · replace hm := rc_f hm c_5
        refine lv_aload_n hx hb dJ5_setLength_d00df_71 rfl (lv_at hl 0 rfl) ?_
        refine lv_iconst (v := 1) hx hb dJ5_setLength_d00df_72 (by decide) ?_
        refine rp_11_2 hx hb hts hown hK hW hS h0 tw_2_69 rfl rfl dJ5_setLength_d00df_73 (fun σ_3 H locs eσ hW hS => ?_)
        replace hm := rc_lt_at hm eσ
        clear eσ
        refine lv_aload_n hx hb dJ5_setLength_d00df_76 rfl (lv_at hl 0 rfl) ?_
        refine lv_iload_n hx hb dJ5_setLength_d00df_77 rfl (lv_at hl 1 rfl) ?_
        refine rp_11_3 hx hb hts hown hK hW hS h0 tw_2_71 dJ5_setLength_d00df_78 (fun σ_4 H locs eσ hW hS => ?_)
        replace hm := rc_lt_at hm eσ
        clear eσ
        exact rc_evret hx hb hr hlocks hW hS (Nat.le_of_ble_eq_true rfl) (Nat.le_of_ble_eq_true rfl) hm dJ5_setLength_d00df_81
    · replace hm := rc_f hm c_8
      refine lv_aload_n hx hb dJ5_setLength_d00df_26 rfl (lv_at hl 0 rfl) ?_
      obtain ⟨w_6, σ_6, hc_6, hm0⟩ := rc_bd_inv hm
      clear hm
      refine rc_ci hS (va_runU (As := []) (rest := []) ⟨hx, hb, hml, hown, hts⟩ (k_J5_isLatin1_aae02 l hT a0 h0 H.size _ _ _ hc_6) (va_cwU (owner := "java/lang/AbstractStringBuilder") 0 hts (rc_gU tw_4_180 tw_4_182 tw_4_183 tw_4_181 tw_1_10 tw_4_184) rfl rfl rfl rfl (by decide +kernel) ⟨Nat.le_of_ble_eq_true rfl, Nat.le_of_ble_eq_true rfl⟩) (rc_preV hT hW hK hE hS h0 (by decide) rfl (q := (RJ4, TJ4, 4)) rfl []) rfl rfl hl.1 rfl (lv_room (Nat.le_of_ble_eq_true rfl)) dJ5_setLength_d00df_27 ⟨Nat.le_of_ble_eq_true rfl, Nat.le_of_ble_eq_true rfl⟩) (fun H locs hW hS => ?_)
      have hm := hm0
      clear hm0 hc_6
      refine lv_if_eq (tgt := 48) hx hb dJ5_setLength_d00df_30 (by decide) (fun c_7 => ?_) (fun c_7 => ?_)
      · replace hm := rc_t hm c_7
        cases hm
      · replace hm := rc_f hm c_7
        cases hm
  · replace hm := rc_f hm c_9
    cases hm
set_option maxHeartbeats 4000000 in
set_option maxRecDepth 100000 in
theorem k_J4_setLength_d00df (l : Launch) {Y : rc_Y} {sh : Nat → Nat} {rf : rc_F} (hT : rc_T Y sh rf) (a0 : Nat) (u1 : Int32) (h0 : sh a0 = 11) (sz : Nat) (σ σ' : rc_S) (r : Unit) (hm : f_J4_setLength_d00df rf a0 u1 σ = some (r, σ')) : Met l yJ4_setLength_d00df (Cond.code yJ4_setLength_d00df cJ4_setLength_d00df 2 none :: rc_big) ({ frames := 2, cells := 0, slots := 0, locals := 43 } : Room) (rc_P Y sh rf σ sz [.ref a0, .int u1]) (va_Qv (fun (_ : Unit) => True) (fun _ t => rc_W Y sh rf σ' t.heap) (rc_A sh sz)) 0 0 (rc_A sh sz) := by
  refine rc_ofWF (cc := cJ4_setLength_d00df) (maxL := 2) (ret := none) (by decide +kernel) rfl ?_
  intro p e s m args below meth c s₁ B hml hv
  obtain ⟨rfl, hsz, hW, hK, hE⟩ := hv
  have hx := B.exec
  have hb := B.bytes
  have hr := B.returns
  have hts : ∀ w ∈ rc_big, w.before _ s = true := fun w h => atoms_spec (ws := Cond.code yJ4_setLength_d00df cJ4_setLength_d00df 2 none :: rc_big) B.pre w (List.mem_cons_of_mem _ h)
  have hown : s.vm.findClass RJ4 = some m.cls := findClass_of_methodNamed B.named
  have hlocks := B.notSynchronized
  clear B
  subst hsz
  have hS : va_S (rc_A sh s.heap.size) s.heap s.heap [] := va_S.rf
  have hl := lv_entry ([.ref a0, .int u1]) (n := 2) (Nat.le_of_ble_eq_true rfl)
  rw [lg_entry_eq]
  generalize (lg_sl ([.ref a0, .int u1]) ++ List.replicate (2 - (lg_sl ([.ref a0, .int u1])).length) Slot.unset).toArray = ls at hl ⊢
  have hl : lv_has ls 2 [(0, .ref a0), (1, .int u1)] := hl
  unfold f_J4_setLength_d00df at hm
  refine lv_aload_n hx hb dJ4_setLength_d00df_0 rfl (lv_at hl 0 rfl) ?_
  refine lv_iload_n hx hb dJ4_setLength_d00df_1 rfl (lv_at hl 1 rfl) ?_
  obtain ⟨w_1, σ_1, hc_1, hm0⟩ := rc_bd_inv hm
  clear hm
  refine rc_cv hS (va_runSU (hK.1 1 _ rfl).2 (As := [.int u1]) (rest := []) ⟨hx, hb, hml, hown, hts⟩ (k_J5_setLength_d00df l hT a0 u1 h0 s.heap.size _ _ _ hc_1) (va_cwSU 1 hts (rc_gSU tw_6_61 tw_7_107 tw_2_80 tw_6_62 tw_1_10 tw_6_63) rfl rfl rfl (by decide +kernel) ⟨Nat.le_of_ble_eq_true rfl, Nat.le_of_ble_eq_true rfl⟩) (rc_preV hT hW hK hE hS h0 (by decide) rfl (q := (RJ4, TJ4, 4)) rfl [.int u1]) rfl rfl hl.1 rfl (lv_room (Nat.le_of_ble_eq_true rfl)) dJ4_setLength_d00df_2 ⟨Nat.le_of_ble_eq_true rfl, Nat.le_of_ble_eq_true rfl⟩) (fun H locs hW hS => ?_)
  have hm := hm0
  clear hm0 hc_1
  exact rc_evret hx hb hr hlocks hW hS (Nat.le_of_ble_eq_true rfl) (Nat.le_of_ble_eq_true rfl) hm dJ4_setLength_d00df_5
set_option maxHeartbeats 4000000 in
set_option maxRecDepth 100000 in
theorem k_J4_length_8abf5 (l : Launch) {Y : rc_Y} {sh : Nat → Nat} {rf : rc_F} (hT : rc_T Y sh rf) (a0 : Nat) (h0 : sh a0 = 11) (sz : Nat) (σ σ' : rc_S) (r : Int32) (hm : f_J4_length_8abf5 rf a0 σ = some (r, σ')) : Met l yJ4_length_8abf5 (Cond.code yJ4_length_8abf5 cJ4_length_8abf5 1 (some .int) :: rc_big) ({ frames := 1, cells := 0, slots := 0, locals := 20 } : Room) (rc_P Y sh rf σ sz [.ref a0]) (va_Qi (fun (r' : Int32) (_ : Unit) => r' = r) (fun _ t => rc_W Y sh rf σ' t.heap) (rc_A sh sz)) 0 0 (rc_A sh sz) := by
  refine rc_ofWF (cc := cJ4_length_8abf5) (maxL := 1) (ret := (some .int)) (by decide +kernel) rfl ?_
  intro p e s m args below meth c s₁ B hml hv
  obtain ⟨rfl, hsz, hW, hK, hE⟩ := hv
  have hx := B.exec
  have hb := B.bytes
  have hr := B.returns
  have hts : ∀ w ∈ rc_big, w.before _ s = true := fun w h => atoms_spec (ws := Cond.code yJ4_length_8abf5 cJ4_length_8abf5 1 (some .int) :: rc_big) B.pre w (List.mem_cons_of_mem _ h)
  have hown : s.vm.findClass RJ4 = some m.cls := findClass_of_methodNamed B.named
  have hlocks := B.notSynchronized
  clear B
  subst hsz
  have hS : va_S (rc_A sh s.heap.size) s.heap s.heap [] := va_S.rf
  have hl := lv_entry ([.ref a0]) (n := 1) (Nat.le_of_ble_eq_true rfl)
  rw [lg_entry_eq]
  generalize (lg_sl ([.ref a0]) ++ List.replicate (1 - (lg_sl ([.ref a0])).length) Slot.unset).toArray = ls at hl ⊢
  have hl : lv_has ls 1 [(0, .ref a0)] := hl
  unfold f_J4_length_8abf5 at hm
  refine lv_aload_n hx hb dJ4_length_8abf5_0 rfl (lv_at hl 0 rfl) ?_
  obtain ⟨w_1, σ_1, hc_1, hm0⟩ := rc_bd_inv hm
  clear hm
  refine rc_ci hS (va_runSU (hK.1 1 _ rfl).2 (As := []) (rest := []) ⟨hx, hb, hml, hown, hts⟩ (k_J5_length_8abf5 l hT a0 h0 s.heap.size _ _ _ hc_1) (va_cwSU 0 hts (rc_gSU tw_5_64 tw_5_60 tw_2_80 tw_5_59 tw_1_10 tw_5_65) rfl rfl rfl (by decide +kernel) ⟨Nat.le_of_ble_eq_true rfl, Nat.le_of_ble_eq_true rfl⟩) (rc_preV hT hW hK hE hS h0 (by decide) rfl (q := (RJ4, TJ4, 4)) rfl []) rfl rfl hl.1 rfl (lv_room (Nat.le_of_ble_eq_true rfl)) dJ4_length_8abf5_1 ⟨Nat.le_of_ble_eq_true rfl, Nat.le_of_ble_eq_true rfl⟩) (fun H locs hW hS => ?_)
  have hm := hm0
  clear hm0 hc_1
  exact rc_eiret hx hb hr hlocks hW hS (Nat.le_of_ble_eq_true rfl) (Nat.le_of_ble_eq_true rfl) hm dJ4_length_8abf5_4
set_option maxHeartbeats 4000000 in
set_option maxRecDepth 100000 in
theorem k_J3_checkIndex_8e157_n (l : Launch) {Y : rc_Y} {sh : Nat → Nat} {rf : rc_F} (hT : rc_T Y sh rf) (u0 : Int32) (u1 : Int32) (sz : Nat) (σ σ' : rc_S) (r : Int32) (hm : f_J3_checkIndex_8e157 rf u0 u1 σ = some (r, σ')) : Met l yJ3_checkIndex_8e157 (Cond.code yJ3_checkIndex_8e157 cJ3_checkIndex_8e157 3 (some .int) :: rc_big) ({ frames := 0, cells := 0, slots := 0, locals := 0 } : Room) (rc_P Y sh rf σ sz [.int u0, .int u1, .null]) (va_Qi (fun (r' : Int32) (_ : Unit) => r' = r) (fun _ t => rc_W Y sh rf σ' t.heap) (rc_A sh sz)) 0 0 (rc_A sh sz) := by
  refine rc_ofWF (cc := cJ3_checkIndex_8e157) (maxL := 3) (ret := (some .int)) (by decide +kernel) rfl ?_
  intro p e s m args below meth c s₁ B hml hv
  obtain ⟨rfl, hsz, hW, hK, hE⟩ := hv
  have hx := B.exec
  have hb := B.bytes
  have hr := B.returns
  have hts : ∀ w ∈ rc_big, w.before _ s = true := fun w h => atoms_spec (ws := Cond.code yJ3_checkIndex_8e157 cJ3_checkIndex_8e157 3 (some .int) :: rc_big) B.pre w (List.mem_cons_of_mem _ h)
  have hown : s.vm.findClass RJ3 = some m.cls := findClass_of_methodNamed B.named
  have hlocks := B.notSynchronized
  clear B
  subst hsz
  have hS : va_S (rc_A sh s.heap.size) s.heap s.heap [] := va_S.rf
  have hl := lv_entry ([.int u0, .int u1, .null]) (n := 3) (Nat.le_of_ble_eq_true rfl)
  rw [lg_entry_eq]
  generalize (lg_sl ([.int u0, .int u1, .null]) ++ List.replicate (3 - (lg_sl ([.int u0, .int u1, .null])).length) Slot.unset).toArray = ls at hl ⊢
  have hl : lv_has ls 3 [(0, .int u0), (1, .int u1), (2, .null)] := hl
  unfold f_J3_checkIndex_8e157 at hm
  refine lv_iload_n hx hb dJ3_checkIndex_8e157_0 rfl (lv_at hl 0 rfl) ?_
  refine lv_if_lt (tgt := 9) hx hb dJ3_checkIndex_8e157_1 (by decide) (fun c_2 => ?_) (fun c_2 => ?_)
  · replace hm := rc_t hm c_2
    cases hm
  · replace hm := rc_f hm c_2
    refine lv_iload_n hx hb dJ3_checkIndex_8e157_4 rfl (lv_at hl 0 rfl) ?_
    refine lv_iload_n hx hb dJ3_checkIndex_8e157_5 rfl (lv_at hl 1 rfl) ?_
    refine lv_icmp_lt (tgt := 16) hx hb dJ3_checkIndex_8e157_6 (by decide) (fun c_1 => ?_) (fun c_1 => ?_)
    · replace hm := rc_t hm c_1
      refine lv_iload_n hx hb dJ3_checkIndex_8e157_16 rfl (lv_at hl 0 rfl) ?_
      exact rc_eiret hx hb hr hlocks hW hS (Nat.le_of_ble_eq_true rfl) (Nat.le_of_ble_eq_true rfl) hm dJ3_checkIndex_8e157_17
    · replace hm := rc_f hm c_1
      cases hm
set_option maxHeartbeats 4000000 in
set_option maxRecDepth 100000 in
theorem k_J3_checkIndex_8e157_o (l : Launch) {Y : rc_Y} {sh : Nat → Nat} {rf : rc_F} (hT : rc_T Y sh rf) (u0 : Int32) (u1 : Int32) (q2 : Nat) (sz : Nat) (σ σ' : rc_S) (r : Int32) (hm : f_J3_checkIndex_8e157 rf u0 u1 σ = some (r, σ')) : Met l yJ3_checkIndex_8e157 (Cond.code yJ3_checkIndex_8e157 cJ3_checkIndex_8e157 3 (some .int) :: rc_big) ({ frames := 0, cells := 0, slots := 0, locals := 0 } : Room) (rc_P Y sh rf σ sz [.int u0, .int u1, .ref q2]) (va_Qi (fun (r' : Int32) (_ : Unit) => r' = r) (fun _ t => rc_W Y sh rf σ' t.heap) (rc_A sh sz)) 0 0 (rc_A sh sz) := by
  refine rc_ofWF (cc := cJ3_checkIndex_8e157) (maxL := 3) (ret := (some .int)) (by decide +kernel) rfl ?_
  intro p e s m args below meth c s₁ B hml hv
  obtain ⟨rfl, hsz, hW, hK, hE⟩ := hv
  have hx := B.exec
  have hb := B.bytes
  have hr := B.returns
  have hts : ∀ w ∈ rc_big, w.before _ s = true := fun w h => atoms_spec (ws := Cond.code yJ3_checkIndex_8e157 cJ3_checkIndex_8e157 3 (some .int) :: rc_big) B.pre w (List.mem_cons_of_mem _ h)
  have hown : s.vm.findClass RJ3 = some m.cls := findClass_of_methodNamed B.named
  have hlocks := B.notSynchronized
  clear B
  subst hsz
  have hS : va_S (rc_A sh s.heap.size) s.heap s.heap [] := va_S.rf
  have hl := lv_entry ([.int u0, .int u1, .ref q2]) (n := 3) (Nat.le_of_ble_eq_true rfl)
  rw [lg_entry_eq]
  generalize (lg_sl ([.int u0, .int u1, .ref q2]) ++ List.replicate (3 - (lg_sl ([.int u0, .int u1, .ref q2])).length) Slot.unset).toArray = ls at hl ⊢
  have hl : lv_has ls 3 [(0, .int u0), (1, .int u1), (2, .ref q2)] := hl
  unfold f_J3_checkIndex_8e157 at hm
  refine lv_iload_n hx hb dJ3_checkIndex_8e157_0 rfl (lv_at hl 0 rfl) ?_
  refine lv_if_lt (tgt := 9) hx hb dJ3_checkIndex_8e157_1 (by decide) (fun c_2 => ?_) (fun c_2 => ?_)
  · replace hm := rc_t hm c_2
    cases hm
  · replace hm := rc_f hm c_2
    refine lv_iload_n hx hb dJ3_checkIndex_8e157_4 rfl (lv_at hl 0 rfl) ?_
    refine lv_iload_n hx hb dJ3_checkIndex_8e157_5 rfl (lv_at hl 1 rfl) ?_
    refine lv_icmp_lt (tgt := 16) hx hb dJ3_checkIndex_8e157_6 (by decide) (fun c_1 => ?_) (fun c_1 => ?_)
    · replace hm := rc_t hm c_1
      refine lv_iload_n hx hb dJ3_checkIndex_8e157_16 rfl (lv_at hl 0 rfl) ?_
      exact rc_eiret hx hb hr hlocks hW hS (Nat.le_of_ble_eq_true rfl) (Nat.le_of_ble_eq_true rfl) hm dJ3_checkIndex_8e157_17
    · replace hm := rc_f hm c_1
      cases hm
set_option maxHeartbeats 4000000 in
set_option maxRecDepth 100000 in
theorem k_J0_coder_7d493 (l : Launch) {Y : rc_Y} {sh : Nat → Nat} {rf : rc_F} (hT : rc_T Y sh rf) (a0 : Nat) (h0 : a0 < 13) (sz : Nat) (σ σ' : rc_S) (r : Int32) (hm : f_J0_coder_7d493 rf a0 σ = some (r, σ')) : Met l yJ0_coder_7d493 (Cond.code yJ0_coder_7d493 cJ0_coder_7d493 1 (some .byte) :: rc_big) ({ frames := 0, cells := 0, slots := 0, locals := 0 } : Room) (rc_P Y sh rf σ sz [.ref (Y.2.2.2 a0)]) (va_Qi (fun (r' : Int32) (_ : Unit) => r' = r) (fun _ t => rc_W Y sh rf σ' t.heap) (rc_A sh sz)) 0 0 (rc_A sh sz) := by
  refine rc_ofWF (cc := cJ0_coder_7d493) (maxL := 1) (ret := (some .byte)) (by decide +kernel) rfl ?_
  intro p e s m args below meth c s₁ B hml hv
  obtain ⟨rfl, hsz, hW, hK, hE⟩ := hv
  have hx := B.exec
  have hb := B.bytes
  have hr := B.returns
  have hts : ∀ w ∈ rc_big, w.before _ s = true := fun w h => atoms_spec (ws := Cond.code yJ0_coder_7d493 cJ0_coder_7d493 1 (some .byte) :: rc_big) B.pre w (List.mem_cons_of_mem _ h)
  have hown : s.vm.findClass RJ0 = some m.cls := findClass_of_methodNamed B.named
  have hlocks := B.notSynchronized
  clear B
  subst hsz
  have hS : va_S (rc_A sh s.heap.size) s.heap s.heap [] := va_S.rf
  have hl := lv_entry ([.ref (Y.2.2.2 a0)]) (n := 1) (Nat.le_of_ble_eq_true rfl)
  rw [lg_entry_eq]
  generalize (lg_sl ([.ref (Y.2.2.2 a0)]) ++ List.replicate (1 - (lg_sl ([.ref (Y.2.2.2 a0)])).length) Slot.unset).toArray = ls at hl ⊢
  have hl : lv_has ls 1 [(0, .ref (Y.2.2.2 a0))] := hl
  unfold f_J0_coder_7d493 at hm
  refine rc_cs hx hb hT hE hS hown (hts _ tw_4_219) dJ0_coder_7d493_0 ?_
  refine lv_if_eq (tgt := 13) hx hb dJ0_coder_7d493_3 (by decide) (fun c9 => absurd c9 (by decide)) (fun _ => ?_)
  refine lv_aload_n hx hb dJ0_coder_7d493_6 rfl (lv_at hl 0 rfl) ?_
  refine vk_getf (v := .int (0 : Int32)) hx hb ((rc_E_S hE).1 a0 h0).2.1 (rc_SB hT hE hS) hown (hts _ tw_5_101) (fun _ h => h) dJ0_coder_7d493_7 ?_
  refine lv_goto (tgt := 14) hx hb dJ0_coder_7d493_10 (by decide) ?_
  exact rc_ezret hx hb hr hlocks hW hS (Nat.le_of_ble_eq_true rfl) (Nat.le_of_ble_eq_true rfl) rfl hm dJ0_coder_7d493_14
set_option maxHeartbeats 4000000 in
set_option maxRecDepth 100000 in
theorem k_J0_length_8abf5 (l : Launch) {Y : rc_Y} {sh : Nat → Nat} {rf : rc_F} (hT : rc_T Y sh rf) (a0 : Nat) (h0 : a0 < 13) (sz : Nat) (σ σ' : rc_S) (r : Int32) (hm : f_J0_length_8abf5 rf a0 σ = some (r, σ')) : Met l yJ0_length_8abf5 (Cond.code yJ0_length_8abf5 cJ0_length_8abf5 1 (some .int) :: rc_big) ({ frames := 1, cells := 0, slots := 0, locals := 20 } : Room) (rc_P Y sh rf σ sz [.ref (Y.2.2.2 a0)]) (va_Qi (fun (r' : Int32) (_ : Unit) => r' = r) (fun _ t => rc_W Y sh rf σ' t.heap) (rc_A sh sz)) 0 0 (rc_A sh sz) := by
  refine rc_ofWF (cc := cJ0_length_8abf5) (maxL := 1) (ret := (some .int)) (by decide +kernel) rfl ?_
  intro p e s m args below meth c s₁ B hml hv
  obtain ⟨rfl, hsz, hW, hK, hE⟩ := hv
  have hx := B.exec
  have hb := B.bytes
  have hr := B.returns
  have hts : ∀ w ∈ rc_big, w.before _ s = true := fun w h => atoms_spec (ws := Cond.code yJ0_length_8abf5 cJ0_length_8abf5 1 (some .int) :: rc_big) B.pre w (List.mem_cons_of_mem _ h)
  have hown : s.vm.findClass RJ0 = some m.cls := findClass_of_methodNamed B.named
  have hlocks := B.notSynchronized
  clear B
  subst hsz
  have hS : va_S (rc_A sh s.heap.size) s.heap s.heap [] := va_S.rf
  have hl := lv_entry ([.ref (Y.2.2.2 a0)]) (n := 1) (Nat.le_of_ble_eq_true rfl)
  rw [lg_entry_eq]
  generalize (lg_sl ([.ref (Y.2.2.2 a0)]) ++ List.replicate (1 - (lg_sl ([.ref (Y.2.2.2 a0)])).length) Slot.unset).toArray = ls at hl ⊢
  have hl : lv_has ls 1 [(0, .ref (Y.2.2.2 a0))] := hl
  unfold f_J0_length_8abf5 at hm
  refine lv_aload_n hx hb dJ0_length_8abf5_0 rfl (lv_at hl 0 rfl) ?_
  refine vk_getf (v := .ref (Y.2.2.2 (100 + a0))) hx hb ((rc_E_S hE).1 a0 h0).2.2.1 (rc_SB hT hE hS) hown (hts _ tw_5_100) (fun _ h => h) dJ0_length_8abf5_1 ?_
  refine va_tlen (v := Int32.ofNat (rc_len.getD a0 0)) hx hb ((rc_E_S hE).1 a0 h0).2.2.2 (rc_SB hT hE hS) rfl dJ0_length_8abf5_4 ?_
  refine lv_aload_n hx hb dJ0_length_8abf5_5 rfl (lv_at hl 0 rfl) ?_
  obtain ⟨w_1, σ_1, hc_1, hm0⟩ := rc_bd_inv hm
  clear hm
  refine rc_ci hS (va_runV (As := []) (rest := [.int (Int32.ofNat (rc_len.getD a0 0))]) ⟨hx, hb, hml, hown, hts⟩ (k_J0_coder_7d493 l hT a0 h0 s.heap.size _ _ _ hc_1) (cwV 0 hts (rc_gV tw_4_215 tw_4_216 tw_4_217 tw_1_12 tw_4_218) rfl rfl rfl (by decide +kernel) ⟨Nat.le_of_ble_eq_true rfl, Nat.le_of_ble_eq_true rfl⟩) (rc_preVs hT hW hK hE hS h0 []) rfl rfl hl.1 rfl (lv_room (Nat.le_of_ble_eq_true rfl)) dJ0_length_8abf5_6 ⟨Nat.le_of_ble_eq_true rfl, Nat.le_of_ble_eq_true rfl⟩) (fun H locs hW hS => ?_)
  have hm := hm0
  clear hm0 hc_1
  refine lv_ishr hx hb dJ0_length_8abf5_9 ?_
  exact rc_eiret hx hb hr hlocks hW hS (Nat.le_of_ble_eq_true rfl) (Nat.le_of_ble_eq_true rfl) hm dJ0_length_8abf5_10
set_option maxHeartbeats 4000000 in
set_option maxRecDepth 100000 in
theorem k_J0_isLatin1_aae02 (l : Launch) {Y : rc_Y} {sh : Nat → Nat} {rf : rc_F} (hT : rc_T Y sh rf) (a0 : Nat) (h0 : a0 < 13) (sz : Nat) (σ σ' : rc_S) (r : Int32) (hm : f_J0_isLatin1_aae02 rf a0 σ = some (r, σ')) : Met l yJ0_isLatin1_aae02 (Cond.code yJ0_isLatin1_aae02 cJ0_isLatin1_aae02 1 (some .boolean) :: rc_big) ({ frames := 0, cells := 0, slots := 0, locals := 0 } : Room) (rc_P Y sh rf σ sz [.ref (Y.2.2.2 a0)]) (va_Qi (fun (r' : Int32) (_ : Unit) => r' = r) (fun _ t => rc_W Y sh rf σ' t.heap) (rc_A sh sz)) 0 0 (rc_A sh sz) := by
  refine rc_ofWF (cc := cJ0_isLatin1_aae02) (maxL := 1) (ret := (some .boolean)) (by decide +kernel) rfl ?_
  intro p e s m args below meth c s₁ B hml hv
  obtain ⟨rfl, hsz, hW, hK, hE⟩ := hv
  have hx := B.exec
  have hb := B.bytes
  have hr := B.returns
  have hts : ∀ w ∈ rc_big, w.before _ s = true := fun w h => atoms_spec (ws := Cond.code yJ0_isLatin1_aae02 cJ0_isLatin1_aae02 1 (some .boolean) :: rc_big) B.pre w (List.mem_cons_of_mem _ h)
  have hown : s.vm.findClass RJ0 = some m.cls := findClass_of_methodNamed B.named
  have hlocks := B.notSynchronized
  clear B
  subst hsz
  have hS : va_S (rc_A sh s.heap.size) s.heap s.heap [] := va_S.rf
  have hl := lv_entry ([.ref (Y.2.2.2 a0)]) (n := 1) (Nat.le_of_ble_eq_true rfl)
  rw [lg_entry_eq]
  generalize (lg_sl ([.ref (Y.2.2.2 a0)]) ++ List.replicate (1 - (lg_sl ([.ref (Y.2.2.2 a0)])).length) Slot.unset).toArray = ls at hl ⊢
  have hl : lv_has ls 1 [(0, .ref (Y.2.2.2 a0))] := hl
  unfold f_J0_isLatin1_aae02 at hm
  refine rc_cs hx hb hT hE hS hown (hts _ tw_4_219) dJ0_isLatin1_aae02_0 ?_
  refine lv_if_eq (tgt := 17) hx hb dJ0_isLatin1_aae02_3 (by decide) (fun c9 => absurd c9 (by decide)) (fun _ => ?_)
  refine lv_aload_n hx hb dJ0_isLatin1_aae02_6 rfl (lv_at hl 0 rfl) ?_
  refine vk_getf (v := .int (0 : Int32)) hx hb ((rc_E_S hE).1 a0 h0).2.1 (rc_SB hT hE hS) hown (hts _ tw_5_101) (fun _ h => h) dJ0_isLatin1_aae02_7 ?_
  refine lv_if_ne (tgt := 17) hx hb dJ0_isLatin1_aae02_10 (by decide) (fun c9 => absurd c9 (by decide)) (fun _ => ?_)
  refine lv_iconst (v := 1) hx hb dJ0_isLatin1_aae02_13 (by decide) ?_
  refine lv_goto (tgt := 18) hx hb dJ0_isLatin1_aae02_14 (by decide) ?_
  exact rc_ezret hx hb hr hlocks hW hS (Nat.le_of_ble_eq_true rfl) (Nat.le_of_ble_eq_true rfl) rfl hm dJ0_isLatin1_aae02_18
set_option maxHeartbeats 4000000 in
set_option maxRecDepth 100000 in
theorem k_J0_checkIndex_df160 (l : Launch) {Y : rc_Y} {sh : Nat → Nat} {rf : rc_F} (hT : rc_T Y sh rf) (u0 : Int32) (u1 : Int32) (sz : Nat) (σ σ' : rc_S) (r : Unit) (hm : f_J0_checkIndex_df160 rf u0 u1 σ = some (r, σ')) : Met l yJ0_checkIndex_df160 (Cond.code yJ0_checkIndex_df160 cJ0_checkIndex_df160 2 none :: rc_big) ({ frames := 1, cells := 0, slots := 0, locals := 22 } : Room) (rc_P Y sh rf σ sz [.int u0, .int u1]) (va_Qv (fun (_ : Unit) => True) (fun _ t => rc_W Y sh rf σ' t.heap) (rc_A sh sz)) 0 0 (rc_A sh sz) := by
  refine rc_ofWF (cc := cJ0_checkIndex_df160) (maxL := 2) (ret := none) (by decide +kernel) rfl ?_
  intro p e s m args below meth c s₁ B hml hv
  obtain ⟨rfl, hsz, hW, hK, hE⟩ := hv
  have hx := B.exec
  have hb := B.bytes
  have hr := B.returns
  have hts : ∀ w ∈ rc_big, w.before _ s = true := fun w h => atoms_spec (ws := Cond.code yJ0_checkIndex_df160 cJ0_checkIndex_df160 2 none :: rc_big) B.pre w (List.mem_cons_of_mem _ h)
  have hown : s.vm.findClass RJ0 = some m.cls := findClass_of_methodNamed B.named
  have hlocks := B.notSynchronized
  clear B
  subst hsz
  have hS : va_S (rc_A sh s.heap.size) s.heap s.heap [] := va_S.rf
  have hl := lv_entry ([.int u0, .int u1]) (n := 2) (Nat.le_of_ble_eq_true rfl)
  rw [lg_entry_eq]
  generalize (lg_sl ([.int u0, .int u1]) ++ List.replicate (2 - (lg_sl ([.int u0, .int u1])).length) Slot.unset).toArray = ls at hl ⊢
  have hl : lv_has ls 2 [(0, .int u0), (1, .int u1)] := hl
  unfold f_J0_checkIndex_df160 at hm
  refine lv_iload_n hx hb dJ0_checkIndex_df160_0 rfl (lv_at hl 0 rfl) ?_
  refine lv_iload_n hx hb dJ0_checkIndex_df160_1 rfl (lv_at hl 1 rfl) ?_
  rcases rc_E_sf hE with hZ_1 | ⟨t_1, hZ_1⟩
  · refine va_gets hx hb hZ_1 (rc_SB hT hE hS) hown (hts _ tw_4_197) (fun _ h => h) dJ0_checkIndex_df160_2 ?_
    obtain ⟨w_2, σ_2, hc_2, hm0⟩ := rc_bd_inv hm
    clear hm
    refine rc_ci hS (va_runS (As := [.int u0, .int u1, .null]) (rest := []) ⟨hx, hb, hml, hown, hts⟩ (k_J3_checkIndex_8e157_n l hT u0 u1  s.heap.size _ _ _ hc_2) (va_cwS 3 hts (rc_gS tw_5_130 tw_5_131 tw_1_25 tw_5_132) rfl rfl rfl (by decide +kernel) ⟨Nat.le_of_ble_eq_true rfl, Nat.le_of_ble_eq_true rfl⟩) (rc_preS hT hW hK hE hS [.int u0, .int u1, .null]) rfl rfl hl.1 rfl (lv_room (Nat.le_of_ble_eq_true rfl)) dJ0_checkIndex_df160_5 ⟨Nat.le_of_ble_eq_true rfl, Nat.le_of_ble_eq_true rfl⟩) (fun H locs hW hS => ?_)
    have hm := hm0
    clear hm0 hc_2
    refine lv_pop hx hb dJ0_checkIndex_df160_8 rfl ?_
    exact rc_evret hx hb hr hlocks hW hS (Nat.le_of_ble_eq_true rfl) (Nat.le_of_ble_eq_true rfl) hm dJ0_checkIndex_df160_9
  · refine va_gets hx hb hZ_1 (rc_SB hT hE hS) hown (hts _ tw_4_197) (fun _ h => h) dJ0_checkIndex_df160_2 ?_
    obtain ⟨w_3, σ_3, hc_3, hm0⟩ := rc_bd_inv hm
    clear hm
    refine rc_ci hS (va_runS (As := [.int u0, .int u1, .ref t_1]) (rest := []) ⟨hx, hb, hml, hown, hts⟩ (k_J3_checkIndex_8e157_o l hT u0 u1 t_1  s.heap.size _ _ _ hc_3) (va_cwS 3 hts (rc_gS tw_5_130 tw_5_131 tw_1_25 tw_5_132) rfl rfl rfl (by decide +kernel) ⟨Nat.le_of_ble_eq_true rfl, Nat.le_of_ble_eq_true rfl⟩) (rc_preS hT hW hK hE hS [.int u0, .int u1, .ref t_1]) rfl rfl hl.1 rfl (lv_room (Nat.le_of_ble_eq_true rfl)) dJ0_checkIndex_df160_5 ⟨Nat.le_of_ble_eq_true rfl, Nat.le_of_ble_eq_true rfl⟩) (fun H locs hW hS => ?_)
    have hm := hm0
    clear hm0 hc_3
    refine lv_pop hx hb dJ0_checkIndex_df160_8 rfl ?_
    exact rc_evret hx hb hr hlocks hW hS (Nat.le_of_ble_eq_true rfl) (Nat.le_of_ble_eq_true rfl) hm dJ0_checkIndex_df160_9
set_option maxHeartbeats 4000000 in
set_option maxRecDepth 100000 in
theorem k_J1_charAt_3b067 (l : Launch) {Y : rc_Y} {sh : Nat → Nat} {rf : rc_F} (hT : rc_T Y sh rf) (q0 : Nat) (u1 : Int32) (hq0 : q0 < 13) (sz : Nat) (σ σ' : rc_S) (r : Int32) (hm : f_J1_charAt_3b067 rf q0 u1 σ = some (r, σ')) : Met l yJ1_charAt_3b067 (Cond.code yJ1_charAt_3b067 cJ1_charAt_3b067 2 (some .char) :: rc_big) ({ frames := 2, cells := 0, slots := 0, locals := 43 } : Room) (rc_P Y sh rf σ sz [.ref (Y.2.2.2 (100 + q0)), .int u1]) (va_Qi (fun (r' : Int32) (_ : Unit) => r' = r) (fun _ t => rc_W Y sh rf σ' t.heap) (rc_A sh sz)) 0 0 (rc_A sh sz) := by
  refine rc_ofWF (cc := cJ1_charAt_3b067) (maxL := 2) (ret := (some .char)) (by decide +kernel) rfl ?_
  intro p e s m args below meth c s₁ B hml hv
  obtain ⟨rfl, hsz, hW, hK, hE⟩ := hv
  have hx := B.exec
  have hb := B.bytes
  have hr := B.returns
  have hts : ∀ w ∈ rc_big, w.before _ s = true := fun w h => atoms_spec (ws := Cond.code yJ1_charAt_3b067 cJ1_charAt_3b067 2 (some .char) :: rc_big) B.pre w (List.mem_cons_of_mem _ h)
  have hown : s.vm.findClass RJ1 = some m.cls := findClass_of_methodNamed B.named
  have hlocks := B.notSynchronized
  clear B
  subst hsz
  have hS : va_S (rc_A sh s.heap.size) s.heap s.heap [] := va_S.rf
  have hl := lv_entry ([.ref (Y.2.2.2 (100 + q0)), .int u1]) (n := 2) (Nat.le_of_ble_eq_true rfl)
  rw [lg_entry_eq]
  generalize (lg_sl ([.ref (Y.2.2.2 (100 + q0)), .int u1]) ++ List.replicate (2 - (lg_sl ([.ref (Y.2.2.2 (100 + q0)), .int u1])).length) Slot.unset).toArray = ls at hl ⊢
  have hl : lv_has ls 2 [(0, .ref (Y.2.2.2 (100 + q0))), (1, .int u1)] := hl
  unfold f_J1_charAt_3b067 at hm
  refine lv_iload_n hx hb dJ1_charAt_3b067_0 rfl (lv_at hl 1 rfl) ?_
  refine lv_aload_n hx hb dJ1_charAt_3b067_1 rfl (lv_at hl 0 rfl) ?_
  refine va_tlen (v := Int32.ofNat (rc_len.getD q0 0)) hx hb ((rc_E_S hE).1 q0 hq0).2.2.2 (rc_SB hT hE hS) rfl dJ1_charAt_3b067_2 ?_
  obtain ⟨w_1, σ_1, hc_1, hm0⟩ := rc_bd_inv hm
  clear hm
  refine rc_cv hS (va_runS (As := [.int u1, .int (Int32.ofNat (rc_len.getD q0 0))]) (rest := []) ⟨hx, hb, hml, hown, hts⟩ (k_J0_checkIndex_df160 l hT u1 (Int32.ofNat (rc_len.getD q0 0))  s.heap.size _ _ _ hc_1) (va_cwS 2 hts (rc_gS tw_5_127 tw_5_128 tw_1_12 tw_5_129) rfl rfl rfl (by decide +kernel) ⟨Nat.le_of_ble_eq_true rfl, Nat.le_of_ble_eq_true rfl⟩) (rc_preS hT hW hK hE hS [.int u1, .int (Int32.ofNat (rc_len.getD q0 0))]) rfl rfl hl.1 rfl (lv_room (Nat.le_of_ble_eq_true rfl)) dJ1_charAt_3b067_3 ⟨Nat.le_of_ble_eq_true rfl, Nat.le_of_ble_eq_true rfl⟩) (fun H locs hW hS => ?_)
  have hm := hm0
  clear hm0 hc_1
  refine lv_aload_n hx hb dJ1_charAt_3b067_6 rfl (lv_at hl 0 rfl) ?_
  refine lv_iload_n hx hb dJ1_charAt_3b067_7 rfl (lv_at hl 1 rfl) ?_
  have hi_2 := (rc_ix hm).1
  replace hm := (rc_ix hm).2
  refine va_tb hx hb ((rc_E_S hE).1 q0 hq0).2.2.2 (rc_SB hT hE hS) hi_2 (v := .int ((rc_byt.getD q0 []).getD u1.toNatClampNeg 0)) rfl dJ1_charAt_3b067_8 ?_
  refine lv_sipush (v := 255) hx hb dJ1_charAt_3b067_9 (by decide) ?_
  refine lv_iand hx hb dJ1_charAt_3b067_12 ?_
  refine lv_i2c (v := ((((rc_byt.getD q0 []).getD u1.toNatClampNeg 0) &&& (255 : Int32)).toUInt32 % 65536).toInt32) hx hb dJ1_charAt_3b067_13 rfl ?_
  have hn := (rc_dc hm).1
  replace hm := (rc_dc hm).2
  exact rc_ezret hx hb hr hlocks hW hS (Nat.le_of_ble_eq_true rfl) (Nat.le_of_ble_eq_true rfl) (rc_narc hn) hm dJ1_charAt_3b067_14
set_option maxHeartbeats 4000000 in
set_option maxRecDepth 100000 in
theorem k_J1_canEncode_fc78d (l : Launch) {Y : rc_Y} {sh : Nat → Nat} {rf : rc_F} (hT : rc_T Y sh rf) (u0 : Int32) (sz : Nat) (σ σ' : rc_S) (r : Int32) (hm : f_J1_canEncode_fc78d rf u0 σ = some (r, σ')) : Met l yJ1_canEncode_fc78d (Cond.code yJ1_canEncode_fc78d cJ1_canEncode_fc78d 1 (some .boolean) :: rc_big) ({ frames := 0, cells := 0, slots := 0, locals := 0 } : Room) (rc_P Y sh rf σ sz [.int u0]) (va_Qi (fun (r' : Int32) (_ : Unit) => r' = r) (fun _ t => rc_W Y sh rf σ' t.heap) (rc_A sh sz)) 0 0 (rc_A sh sz) := by
  refine rc_ofWF (cc := cJ1_canEncode_fc78d) (maxL := 1) (ret := (some .boolean)) (by decide +kernel) rfl ?_
  intro p e s m args below meth c s₁ B hml hv
  obtain ⟨rfl, hsz, hW, hK, hE⟩ := hv
  have hx := B.exec
  have hb := B.bytes
  have hr := B.returns
  have hts : ∀ w ∈ rc_big, w.before _ s = true := fun w h => atoms_spec (ws := Cond.code yJ1_canEncode_fc78d cJ1_canEncode_fc78d 1 (some .boolean) :: rc_big) B.pre w (List.mem_cons_of_mem _ h)
  have hown : s.vm.findClass RJ1 = some m.cls := findClass_of_methodNamed B.named
  have hlocks := B.notSynchronized
  clear B
  subst hsz
  have hS : va_S (rc_A sh s.heap.size) s.heap s.heap [] := va_S.rf
  have hl := lv_entry ([.int u0]) (n := 1) (Nat.le_of_ble_eq_true rfl)
  rw [lg_entry_eq]
  generalize (lg_sl ([.int u0]) ++ List.replicate (1 - (lg_sl ([.int u0])).length) Slot.unset).toArray = ls at hl ⊢
  have hl : lv_has ls 1 [(0, .int u0)] := hl
  unfold f_J1_canEncode_fc78d at hm
  refine lv_iload_n hx hb dJ1_canEncode_fc78d_0 rfl (lv_at hl 0 rfl) ?_
  refine lv_sipush (v := 255) hx hb dJ1_canEncode_fc78d_1 (by decide) ?_
  refine lv_icmp_gt (tgt := 11) hx hb dJ1_canEncode_fc78d_4 (by decide) (fun c_1 => ?_) (fun c_1 => ?_)
  · replace hm := rc_t hm c_1
    refine lv_iconst (v := 0) hx hb dJ1_canEncode_fc78d_11 (by decide) ?_
    exact rc_ezret hx hb hr hlocks hW hS (Nat.le_of_ble_eq_true rfl) (Nat.le_of_ble_eq_true rfl) rfl hm dJ1_canEncode_fc78d_12
  · replace hm := rc_f hm c_1
    refine lv_iconst (v := 1) hx hb dJ1_canEncode_fc78d_7 (by decide) ?_
    refine lv_goto (tgt := 12) hx hb dJ1_canEncode_fc78d_8 (by decide) ?_
    exact rc_ezret hx hb hr hlocks hW hS (Nat.le_of_ble_eq_true rfl) (Nat.le_of_ble_eq_true rfl) rfl hm dJ1_canEncode_fc78d_12
set_option maxHeartbeats 4000000 in
set_option maxRecDepth 100000 in
theorem k_J0_charAt_5068e (l : Launch) {Y : rc_Y} {sh : Nat → Nat} {rf : rc_F} (hT : rc_T Y sh rf) (a0 : Nat) (u1 : Int32) (h0 : a0 < 13) (sz : Nat) (σ σ' : rc_S) (r : Int32) (hm : f_J0_charAt_5068e rf a0 u1 σ = some (r, σ')) : Met l yJ0_charAt_5068e (Cond.code yJ0_charAt_5068e cJ0_charAt_5068e 2 (some .char) :: rc_big) ({ frames := 3, cells := 0, slots := 0, locals := 64 } : Room) (rc_P Y sh rf σ sz [.ref (Y.2.2.2 a0), .int u1]) (va_Qi (fun (r' : Int32) (_ : Unit) => r' = r) (fun _ t => rc_W Y sh rf σ' t.heap) (rc_A sh sz)) 0 0 (rc_A sh sz) := by
  refine rc_ofWF (cc := cJ0_charAt_5068e) (maxL := 2) (ret := (some .char)) (by decide +kernel) rfl ?_
  intro p e s m args below meth c s₁ B hml hv
  obtain ⟨rfl, hsz, hW, hK, hE⟩ := hv
  have hx := B.exec
  have hb := B.bytes
  have hr := B.returns
  have hts : ∀ w ∈ rc_big, w.before _ s = true := fun w h => atoms_spec (ws := Cond.code yJ0_charAt_5068e cJ0_charAt_5068e 2 (some .char) :: rc_big) B.pre w (List.mem_cons_of_mem _ h)
  have hown : s.vm.findClass RJ0 = some m.cls := findClass_of_methodNamed B.named
  have hlocks := B.notSynchronized
  clear B
  subst hsz
  have hS : va_S (rc_A sh s.heap.size) s.heap s.heap [] := va_S.rf
  have hl := lv_entry ([.ref (Y.2.2.2 a0), .int u1]) (n := 2) (Nat.le_of_ble_eq_true rfl)
  rw [lg_entry_eq]
  generalize (lg_sl ([.ref (Y.2.2.2 a0), .int u1]) ++ List.replicate (2 - (lg_sl ([.ref (Y.2.2.2 a0), .int u1])).length) Slot.unset).toArray = ls at hl ⊢
  have hl : lv_has ls 2 [(0, .ref (Y.2.2.2 a0)), (1, .int u1)] := hl
  unfold f_J0_charAt_5068e at hm
  refine lv_aload_n hx hb dJ0_charAt_5068e_0 rfl (lv_at hl 0 rfl) ?_
  obtain ⟨w_1, σ_1, hc_1, hm0⟩ := rc_bd_inv hm
  clear hm
  refine rc_ci hS (va_runV (As := []) (rest := []) ⟨hx, hb, hml, hown, hts⟩ (k_J0_isLatin1_aae02 l hT a0 h0 s.heap.size _ _ _ hc_1) (cwV 0 hts (rc_gV tw_5_120 tw_5_121 tw_5_122 tw_1_12 tw_5_123) rfl rfl rfl (by decide +kernel) ⟨Nat.le_of_ble_eq_true rfl, Nat.le_of_ble_eq_true rfl⟩) (rc_preVs hT hW hK hE hS h0 []) rfl rfl hl.1 rfl (lv_room (Nat.le_of_ble_eq_true rfl)) dJ0_charAt_5068e_1 ⟨Nat.le_of_ble_eq_true rfl, Nat.le_of_ble_eq_true rfl⟩) (fun H locs hW hS => ?_)
  have hm := hm0
  clear hm0 hc_1
  refine lv_if_eq (tgt := 16) hx hb dJ0_charAt_5068e_4 (by decide) (fun c_3 => ?_) (fun c_3 => ?_)
  · replace hm := rc_t hm c_3
    cases hm
  · replace hm := rc_f hm c_3
    refine lv_aload_n hx hb dJ0_charAt_5068e_7 rfl (lv_at hl 0 rfl) ?_
    refine vk_getf (v := .ref (Y.2.2.2 (100 + a0))) hx hb ((rc_E_S hE).1 a0 h0).2.2.1 (rc_SB hT hE hS) hown (hts _ tw_5_100) (fun _ h => h) dJ0_charAt_5068e_8 ?_
    refine lv_iload_n hx hb dJ0_charAt_5068e_11 rfl (lv_at hl 1 rfl) ?_
    obtain ⟨w_2, σ_2, hc_2, hm0⟩ := rc_bd_inv hm
    clear hm
    refine rc_ci hS (va_runS (As := [.ref (Y.2.2.2 (100 + a0)), .int u1]) (rest := []) ⟨hx, hb, hml, hown, hts⟩ (k_J1_charAt_3b067 l hT a0 u1 h0 H.size _ _ _ hc_2) (va_cwS 2 hts (rc_gS tw_5_124 tw_5_125 tw_1_26 tw_5_126) rfl rfl rfl (by decide +kernel) ⟨Nat.le_of_ble_eq_true rfl, Nat.le_of_ble_eq_true rfl⟩) (rc_preS hT hW hK hE hS [.ref (Y.2.2.2 (100 + a0)), .int u1]) rfl rfl hl.1 rfl (lv_room (Nat.le_of_ble_eq_true rfl)) dJ0_charAt_5068e_12 ⟨Nat.le_of_ble_eq_true rfl, Nat.le_of_ble_eq_true rfl⟩) (fun H locs hW hS => ?_)
    have hm := hm0
    clear hm0 hc_2
    have hn := (rc_dc hm).1
    replace hm := (rc_dc hm).2
    exact rc_ezret hx hb hr hlocks hW hS (Nat.le_of_ble_eq_true rfl) (Nat.le_of_ble_eq_true rfl) (rc_narc hn) hm dJ0_charAt_5068e_15
set_option maxHeartbeats 4000000 in
set_option maxRecDepth 100000 in
theorem k_J1_canEncode_9a6ad (l : Launch) {Y : rc_Y} {sh : Nat → Nat} {rf : rc_F} (hT : rc_T Y sh rf) (u0 : Int32) (sz : Nat) (σ σ' : rc_S) (r : Int32) (hm : f_J1_canEncode_9a6ad rf u0 σ = some (r, σ')) : Met l yJ1_canEncode_9a6ad (Cond.code yJ1_canEncode_9a6ad cJ1_canEncode_9a6ad 1 (some .boolean) :: rc_big) ({ frames := 0, cells := 0, slots := 0, locals := 0 } : Room) (rc_P Y sh rf σ sz [.int u0]) (va_Qi (fun (r' : Int32) (_ : Unit) => r' = r) (fun _ t => rc_W Y sh rf σ' t.heap) (rc_A sh sz)) 0 0 (rc_A sh sz) := by
  refine rc_ofWF (cc := cJ1_canEncode_9a6ad) (maxL := 1) (ret := (some .boolean)) (by decide +kernel) rfl ?_
  intro p e s m args below meth c s₁ B hml hv
  obtain ⟨rfl, hsz, hW, hK, hE⟩ := hv
  have hx := B.exec
  have hb := B.bytes
  have hr := B.returns
  have hts : ∀ w ∈ rc_big, w.before _ s = true := fun w h => atoms_spec (ws := Cond.code yJ1_canEncode_9a6ad cJ1_canEncode_9a6ad 1 (some .boolean) :: rc_big) B.pre w (List.mem_cons_of_mem _ h)
  have hown : s.vm.findClass RJ1 = some m.cls := findClass_of_methodNamed B.named
  have hlocks := B.notSynchronized
  clear B
  subst hsz
  have hS : va_S (rc_A sh s.heap.size) s.heap s.heap [] := va_S.rf
  have hl := lv_entry ([.int u0]) (n := 1) (Nat.le_of_ble_eq_true rfl)
  rw [lg_entry_eq]
  generalize (lg_sl ([.int u0]) ++ List.replicate (1 - (lg_sl ([.int u0])).length) Slot.unset).toArray = ls at hl ⊢
  have hl : lv_has ls 1 [(0, .int u0)] := hl
  unfold f_J1_canEncode_9a6ad at hm
  refine lv_iload_n hx hb dJ1_canEncode_9a6ad_0 rfl (lv_at hl 0 rfl) ?_
  refine lv_if_lt (tgt := 15) hx hb dJ1_canEncode_9a6ad_1 (by decide) (fun c_2 => ?_) (fun c_2 => ?_)
  · replace hm := rc_t hm c_2
    refine lv_iconst (v := 0) hx hb dJ1_canEncode_9a6ad_15 (by decide) ?_
    exact rc_ezret hx hb hr hlocks hW hS (Nat.le_of_ble_eq_true rfl) (Nat.le_of_ble_eq_true rfl) rfl hm dJ1_canEncode_9a6ad_16
  · replace hm := rc_f hm c_2
    refine lv_iload_n hx hb dJ1_canEncode_9a6ad_4 rfl (lv_at hl 0 rfl) ?_
    refine lv_sipush (v := 255) hx hb dJ1_canEncode_9a6ad_5 (by decide) ?_
    refine lv_icmp_gt (tgt := 15) hx hb dJ1_canEncode_9a6ad_8 (by decide) (fun c_1 => ?_) (fun c_1 => ?_)
    · replace hm := rc_t hm c_1
      refine lv_iconst (v := 0) hx hb dJ1_canEncode_9a6ad_15 (by decide) ?_
      exact rc_ezret hx hb hr hlocks hW hS (Nat.le_of_ble_eq_true rfl) (Nat.le_of_ble_eq_true rfl) rfl hm dJ1_canEncode_9a6ad_16
    · replace hm := rc_f hm c_1
      refine lv_iconst (v := 1) hx hb dJ1_canEncode_9a6ad_11 (by decide) ?_
      refine lv_goto (tgt := 16) hx hb dJ1_canEncode_9a6ad_12 (by decide) ?_
      exact rc_ezret hx hb hr hlocks hW hS (Nat.le_of_ble_eq_true rfl) (Nat.le_of_ble_eq_true rfl) rfl hm dJ1_canEncode_9a6ad_16
set_option maxHeartbeats 4000000 in
set_option maxRecDepth 100000 in
theorem k_J1_indexOfChar_4cfef (l : Launch) {Y : rc_Y} {sh : Nat → Nat} {rf : rc_F} (hT : rc_T Y sh rf) (q0 : Nat) (u1 : Int32) (u2 : Int32) (u3 : Int32) (hq0 : q0 < 13) (sz : Nat) (σ σ' : rc_S) (r : Int32) (hm : f_J1_indexOfChar_4cfef rf q0 u1 u2 u3 σ = some (r, σ')) : Met l yJ1_indexOfChar_4cfef (Cond.code yJ1_indexOfChar_4cfef cJ1_indexOfChar_4cfef 6 (some .int) :: rc_big) ({ frames := 0, cells := 0, slots := 0, locals := 0 } : Room) (rc_P Y sh rf σ sz [.ref (Y.2.2.2 (100 + q0)), .int u1, .int u2, .int u3]) (va_Qi (fun (r' : Int32) (_ : Unit) => r' = r) (fun _ t => rc_W Y sh rf σ' t.heap) (rc_A sh sz)) 0 0 (rc_A sh sz) := by
  refine rc_ofWF (cc := cJ1_indexOfChar_4cfef) (maxL := 6) (ret := (some .int)) (by decide +kernel) rfl ?_
  intro p e s m args below meth c s₁ B hml hv
  obtain ⟨rfl, hsz, hW, hK, hE⟩ := hv
  have hx := B.exec
  have hb := B.bytes
  have hr := B.returns
  have hts : ∀ w ∈ rc_big, w.before _ s = true := fun w h => atoms_spec (ws := Cond.code yJ1_indexOfChar_4cfef cJ1_indexOfChar_4cfef 6 (some .int) :: rc_big) B.pre w (List.mem_cons_of_mem _ h)
  have hown : s.vm.findClass RJ1 = some m.cls := findClass_of_methodNamed B.named
  have hlocks := B.notSynchronized
  clear B
  subst hsz
  have hS : va_S (rc_A sh s.heap.size) s.heap s.heap [] := va_S.rf
  have hl := lv_entry ([.ref (Y.2.2.2 (100 + q0)), .int u1, .int u2, .int u3]) (n := 6) (Nat.le_of_ble_eq_true rfl)
  rw [lg_entry_eq]
  generalize (lg_sl ([.ref (Y.2.2.2 (100 + q0)), .int u1, .int u2, .int u3]) ++ List.replicate (6 - (lg_sl ([.ref (Y.2.2.2 (100 + q0)), .int u1, .int u2, .int u3])).length) Slot.unset).toArray = ls at hl ⊢
  have hl : lv_has ls 6 [(0, .ref (Y.2.2.2 (100 + q0))), (1, .int u1), (2, .int u2), (3, .int u3)] := hl
  have lp_7 : ∀ (r0 : Nat) (v3 : Int32) (v4 : Int32) (hr0 : r0 < 13) (K : Int32 → rc_S → Option (Int32 × rc_S)) (hKK : ∀ (v5 : Int32) (σ : rc_S) (H : Heap) (locs : List Loc) (ls : Array Slot), K v5 σ = some (r, σ') → rc_W Y sh rf σ H → va_S (rc_A sh s.heap.size) s.heap H locs → lv_has ls 6 [] → W p l e (headSpec (Cond.code yJ1_indexOfChar_4cfef cJ1_indexOfChar_4cfef 6 (some .int) :: rc_big) ({ frames := 0, cells := 0, slots := 0, locals := 0 } : Room)).room s m (([.ref (Y.2.2.2 (100 + q0)), .int u1, .int u2, .int u3] : List Value).toArray) below meth c H locs 0 0 (MQ below (va_Qi (fun (r' : Int32) (_ : Unit) => r' = r) (fun _ t => rc_W Y sh rf σ' t.heap) (rc_A sh s.heap.size)) ([.ref (Y.2.2.2 (100 + q0)), .int u1, .int u2, .int u3] : List Value).toArray s 0 0 (rc_A sh s.heap.size)) (F0 m 31 ls [])) (n : Nat) (v5 : Int32) (σ : rc_S) (H : Heap) (locs : List Loc) (ls : Array Slot), f_J1_indexOfChar_4cfef_7 rf r0 v3 v4 K n v5 σ = some (r, σ') → rc_W Y sh rf σ H → va_S (rc_A sh s.heap.size) s.heap H locs → lv_has ls 6 [(0, .ref (Y.2.2.2 (100 + r0))), (3, .int v3), (4, .int v4), (5, .int v5)] → W p l e (headSpec (Cond.code yJ1_indexOfChar_4cfef cJ1_indexOfChar_4cfef 6 (some .int) :: rc_big) ({ frames := 0, cells := 0, slots := 0, locals := 0 } : Room)).room s m (([.ref (Y.2.2.2 (100 + q0)), .int u1, .int u2, .int u3] : List Value).toArray) below meth c H locs 0 0 (MQ below (va_Qi (fun (r' : Int32) (_ : Unit) => r' = r) (fun _ t => rc_W Y sh rf σ' t.heap) (rc_A sh s.heap.size)) ([.ref (Y.2.2.2 (100 + q0)), .int u1, .int u2, .int u3] : List Value).toArray s 0 0 (rc_A sh s.heap.size)) (F0 m 7 ls []) := by
    intro r0 v3 v4 hr0 K hKK n
    induction n with
    | zero =>
      intro v5 σ H locs ls hm
      rw [f_J1_indexOfChar_4cfef_7] at hm
      cases hm
    | succ n ih =>
      intro v5 σ H locs ls hm hW hS hl
      rw [f_J1_indexOfChar_4cfef_7] at hm
      refine lv_iload hx hb dJ1_indexOfChar_4cfef_7 (lv_at hl 3 rfl) ?_
      refine lv_iload_n hx hb dJ1_indexOfChar_4cfef_9 rfl (lv_at hl 1 rfl) ?_
      refine lv_icmp_ge (tgt := 31) hx hb dJ1_indexOfChar_4cfef_10 (by decide) (fun c_5 => ?_) (fun c_5 => ?_)
      · replace hm := rc_t hm c_5
        exact hKK v5 σ _ _ _ hm hW hS (lv_sub hl [] rfl)
      · replace hm := rc_f hm c_5
        refine lv_aload_n hx hb dJ1_indexOfChar_4cfef_13 rfl (lv_at hl 0 rfl) ?_
        refine lv_iload hx hb dJ1_indexOfChar_4cfef_14 (lv_at hl 3 rfl) ?_
        have hi_2 := (rc_ix hm).1
        replace hm := (rc_ix hm).2
        refine va_tb hx hb ((rc_E_S hE).1 r0 hr0).2.2.2 (rc_SB hT hE hS) hi_2 (v := .int ((rc_byt.getD r0 []).getD v5.toNatClampNeg 0)) rfl dJ1_indexOfChar_4cfef_16 ?_
        refine lv_iload hx hb dJ1_indexOfChar_4cfef_17 (lv_at hl 2 rfl) ?_
        refine lv_icmp_ne (tgt := 25) hx hb dJ1_indexOfChar_4cfef_19 (by decide) (fun c_4 => ?_) (fun c_4 => ?_)
        · replace hm := rc_f hm c_4
          obtain ⟨v5_3, ev⟩ : ∃ y : Int32, y = (v5 + 1) := ⟨_, rfl⟩
          replace hm := rc_lt_at hm ev
          refine lv_iinc (v := v5_3) (lv' := [(5, .int v5_3), (0, .ref (Y.2.2.2 (100 + r0))), (3, .int v3), (4, .int v4)]) hx hb dJ1_indexOfChar_4cfef_25 hl (k := 3) rfl (by rw [ev]; rfl) (by decide) rfl (fun ls hl => ?_)
          clear ev
          refine lv_goto (tgt := 7) hx hb dJ1_indexOfChar_4cfef_28 (by decide) ?_
          exact ih v5_3 σ _ _ _ hm hW hS (lv_sub hl [1, 2, 3, 0] rfl)
        · replace hm := rc_t hm c_4
          refine lv_iload hx hb dJ1_indexOfChar_4cfef_22 (lv_at hl 3 rfl) ?_
          exact rc_eiret hx hb hr hlocks hW hS (Nat.le_of_ble_eq_true rfl) (Nat.le_of_ble_eq_true rfl) hm dJ1_indexOfChar_4cfef_24
  unfold f_J1_indexOfChar_4cfef at hm
  refine lv_iload_n hx hb dJ1_indexOfChar_4cfef_0 rfl (lv_at hl 1 rfl) ?_
  refine lv_i2b (v := u1.toInt8.toInt32) hx hb dJ1_indexOfChar_4cfef_1 rfl ?_
  refine lv_topi (fun v4_1 ev => ?_)
  replace hm := rc_lt_at hm ev
  clear ev
  refine lv_istore (lv' := [(4, .int v4_1), (0, .ref (Y.2.2.2 (100 + q0))), (1, .int u1), (2, .int u2), (3, .int u3)]) hx hb dJ1_indexOfChar_4cfef_2 hl (by decide) rfl (fun ls hl => ?_)
  refine lv_iload_n hx hb dJ1_indexOfChar_4cfef_4 rfl (lv_at hl 3 rfl) ?_
  refine lv_istore (lv' := [(5, .int u2), (4, .int v4_1), (0, .ref (Y.2.2.2 (100 + q0))), (1, .int u1), (2, .int u2), (3, .int u3)]) hx hb dJ1_indexOfChar_4cfef_5 hl (by decide) rfl (fun ls hl => ?_)
  refine lp_7 q0 u3 v4_1 hq0 _ (fun v5_6 σ_7 H locs ls hm hW hS hl => ?_) rc_fu u2 σ _ _ _ hm hW hS (lv_sub hl [2, 5, 1, 0] rfl)
  refine lv_iconst (v := (-1)) hx hb dJ1_indexOfChar_4cfef_31 (by decide) ?_
  exact rc_eiret hx hb hr hlocks hW hS (Nat.le_of_ble_eq_true rfl) (Nat.le_of_ble_eq_true rfl) hm dJ1_indexOfChar_4cfef_32
set_option maxHeartbeats 4000000 in
set_option maxRecDepth 100000 in
theorem k_J1_indexOf_4cfef (l : Launch) {Y : rc_Y} {sh : Nat → Nat} {rf : rc_F} (hT : rc_T Y sh rf) (q0 : Nat) (u1 : Int32) (u2 : Int32) (u3 : Int32) (hq0 : q0 < 13) (sz : Nat) (σ σ' : rc_S) (r : Int32) (hm : f_J1_indexOf_4cfef rf q0 u1 u2 u3 σ = some (r, σ')) : Met l yJ1_indexOf_4cfef (Cond.code yJ1_indexOf_4cfef cJ1_indexOf_4cfef 4 (some .int) :: rc_big) ({ frames := 1, cells := 0, slots := 0, locals := 25 } : Room) (rc_P Y sh rf σ sz [.ref (Y.2.2.2 (100 + q0)), .int u1, .int u2, .int u3]) (va_Qi (fun (r' : Int32) (_ : Unit) => r' = r) (fun _ t => rc_W Y sh rf σ' t.heap) (rc_A sh sz)) 0 0 (rc_A sh sz) := by
  refine rc_ofWF (cc := cJ1_indexOf_4cfef) (maxL := 4) (ret := (some .int)) (by decide +kernel) rfl ?_
  intro p e s m args below meth c s₁ B hml hv
  obtain ⟨rfl, hsz, hW, hK, hE⟩ := hv
  have hx := B.exec
  have hb := B.bytes
  have hr := B.returns
  have hts : ∀ w ∈ rc_big, w.before _ s = true := fun w h => atoms_spec (ws := Cond.code yJ1_indexOf_4cfef cJ1_indexOf_4cfef 4 (some .int) :: rc_big) B.pre w (List.mem_cons_of_mem _ h)
  have hown : s.vm.findClass RJ1 = some m.cls := findClass_of_methodNamed B.named
  have hlocks := B.notSynchronized
  clear B
  subst hsz
  have hS : va_S (rc_A sh s.heap.size) s.heap s.heap [] := va_S.rf
  have hl := lv_entry ([.ref (Y.2.2.2 (100 + q0)), .int u1, .int u2, .int u3]) (n := 4) (Nat.le_of_ble_eq_true rfl)
  rw [lg_entry_eq]
  generalize (lg_sl ([.ref (Y.2.2.2 (100 + q0)), .int u1, .int u2, .int u3]) ++ List.replicate (4 - (lg_sl ([.ref (Y.2.2.2 (100 + q0)), .int u1, .int u2, .int u3])).length) Slot.unset).toArray = ls at hl ⊢
  have hl : lv_has ls 4 [(0, .ref (Y.2.2.2 (100 + q0))), (1, .int u1), (2, .int u2), (3, .int u3)] := hl
  unfold f_J1_indexOf_4cfef at hm
  refine lv_iload_n hx hb dJ1_indexOf_4cfef_0 rfl (lv_at hl 1 rfl) ?_
  obtain ⟨w_1, σ_1, hc_1, hm0⟩ := rc_bd_inv hm
  clear hm
  refine rc_ci hS (va_runS (As := [.int u1]) (rest := []) ⟨hx, hb, hml, hown, hts⟩ (k_J1_canEncode_9a6ad l hT u1  s.heap.size _ _ _ hc_1) (va_cwS 1 hts (rc_gS tw_5_195 tw_5_196 tw_1_26 tw_5_197) rfl rfl rfl (by decide +kernel) ⟨Nat.le_of_ble_eq_true rfl, Nat.le_of_ble_eq_true rfl⟩) (rc_preS hT hW hK hE hS [.int u1]) rfl rfl hl.1 rfl (lv_room (Nat.le_of_ble_eq_true rfl)) dJ1_indexOf_4cfef_1 ⟨Nat.le_of_ble_eq_true rfl, Nat.le_of_ble_eq_true rfl⟩) (fun H locs hW hS => ?_)
  have hm := hm0
  clear hm0 hc_1
  refine lv_if_ne (tgt := 9) hx hb dJ1_indexOf_4cfef_4 (by decide) (fun c_6 => ?_) (fun c_6 => ?_)
  · replace hm := rc_f hm c_6
    refine lv_iload_n hx hb dJ1_indexOf_4cfef_9 rfl (lv_at hl 2 rfl) ?_
    refine lv_iconst (v := 0) hx hb dJ1_indexOf_4cfef_10 (by decide) ?_
    refine va_mmax hx hb (hml.trans hl.1.symm) hown (hts _ tw_5_198) (hts _ tw_3_234) (hts _ tw_1_22) (hts _ tw_3_235) (Nat.le_of_ble_eq_true rfl) (Nat.le_of_ble_eq_true rfl) (Nat.le_of_ble_eq_true rfl) (Nat.le_of_ble_eq_true rfl) dJ1_indexOf_4cfef_11 ?_
    refine lv_topi (fun v2_2 ev => ?_)
    replace hm := rc_lt_at hm ev
    clear ev
    refine lv_istore_n (lv' := [(2, .int v2_2), (0, .ref (Y.2.2.2 (100 + q0))), (1, .int u1), (3, .int u3)]) hx hb dJ1_indexOf_4cfef_14 rfl hl (by decide) rfl (fun ls hl => ?_)
    refine lv_iload_n hx hb dJ1_indexOf_4cfef_15 rfl (lv_at hl 3 rfl) ?_
    refine lv_aload_n hx hb dJ1_indexOf_4cfef_16 rfl (lv_at hl 1 rfl) ?_
    refine va_tlen (v := Int32.ofNat (rc_len.getD q0 0)) hx hb ((rc_E_S hE).1 q0 hq0).2.2.2 (rc_SB hT hE hS) rfl dJ1_indexOf_4cfef_17 ?_
    refine va_mmin hx hb (hml.trans hl.1.symm) hown (hts _ tw_5_199) (hts _ tw_3_31) (hts _ tw_1_22) (hts _ tw_3_32) (Nat.le_of_ble_eq_true rfl) (Nat.le_of_ble_eq_true rfl) (Nat.le_of_ble_eq_true rfl) (Nat.le_of_ble_eq_true rfl) dJ1_indexOf_4cfef_18 ?_
    refine lv_topi (fun v3_3 ev => ?_)
    replace hm := rc_lt_at hm ev
    clear ev
    refine lv_istore_n (lv' := [(3, .int v3_3), (2, .int v2_2), (0, .ref (Y.2.2.2 (100 + q0))), (1, .int u1)]) hx hb dJ1_indexOf_4cfef_21 rfl hl (by decide) rfl (fun ls hl => ?_)
    refine lv_iload_n hx hb dJ1_indexOf_4cfef_22 rfl (lv_at hl 1 rfl) ?_
    refine lv_iload_n hx hb dJ1_indexOf_4cfef_23 rfl (lv_at hl 0 rfl) ?_
    refine lv_icmp_lt (tgt := 29) hx hb dJ1_indexOf_4cfef_24 (by decide) (fun c_5 => ?_) (fun c_5 => ?_)
    · replace hm := rc_t hm c_5
      refine lv_aload_n hx hb dJ1_indexOf_4cfef_29 rfl (lv_at hl 2 rfl) ?_
      refine lv_iload_n hx hb dJ1_indexOf_4cfef_30 rfl (lv_at hl 3 rfl) ?_
      refine lv_iload_n hx hb dJ1_indexOf_4cfef_31 rfl (lv_at hl 1 rfl) ?_
      refine lv_iload_n hx hb dJ1_indexOf_4cfef_32 rfl (lv_at hl 0 rfl) ?_
      obtain ⟨w_4, σ_4, hc_4, hm0⟩ := rc_bd_inv hm
      clear hm
      refine rc_ci hS (va_runS (As := [.ref (Y.2.2.2 (100 + q0)), .int u1, .int v2_2, .int v3_3]) (rest := []) ⟨hx, hb, hml, hown, hts⟩ (k_J1_indexOfChar_4cfef l hT q0 u1 v2_2 v3_3 hq0 H.size _ _ _ hc_4) (va_cwS 4 hts (rc_gS tw_5_200 tw_5_201 tw_1_26 tw_5_202) rfl rfl rfl (by decide +kernel) ⟨Nat.le_of_ble_eq_true rfl, Nat.le_of_ble_eq_true rfl⟩) (rc_preS hT hW hK hE hS [.ref (Y.2.2.2 (100 + q0)), .int u1, .int v2_2, .int v3_3]) rfl rfl hl.1 rfl (lv_room (Nat.le_of_ble_eq_true rfl)) dJ1_indexOf_4cfef_33 ⟨Nat.le_of_ble_eq_true rfl, Nat.le_of_ble_eq_true rfl⟩) (fun H locs hW hS => ?_)
      have hm := hm0
      clear hm0 hc_4
      exact rc_eiret hx hb hr hlocks hW hS (Nat.le_of_ble_eq_true rfl) (Nat.le_of_ble_eq_true rfl) hm dJ1_indexOf_4cfef_36
    · replace hm := rc_f hm c_5
      refine lv_iconst (v := (-1)) hx hb dJ1_indexOf_4cfef_27 (by decide) ?_
      exact rc_eiret hx hb hr hlocks hW hS (Nat.le_of_ble_eq_true rfl) (Nat.le_of_ble_eq_true rfl) hm dJ1_indexOf_4cfef_28
  · replace hm := rc_t hm c_6
    refine lv_iconst (v := (-1)) hx hb dJ1_indexOf_4cfef_7 (by decide) ?_
    exact rc_eiret hx hb hr hlocks hW hS (Nat.le_of_ble_eq_true rfl) (Nat.le_of_ble_eq_true rfl) hm dJ1_indexOf_4cfef_8
set_option maxHeartbeats 4000000 in
set_option maxRecDepth 100000 in
theorem k_J0_indexOf_7cf53 (l : Launch) {Y : rc_Y} {sh : Nat → Nat} {rf : rc_F} (hT : rc_T Y sh rf) (a0 : Nat) (u1 : Int32) (u2 : Int32) (h0 : a0 < 13) (sz : Nat) (σ σ' : rc_S) (r : Int32) (hm : f_J0_indexOf_7cf53 rf a0 u1 u2 σ = some (r, σ')) : Met l yJ0_indexOf_7cf53 (Cond.code yJ0_indexOf_7cf53 cJ0_indexOf_7cf53 3 (some .int) :: rc_big) ({ frames := 2, cells := 0, slots := 0, locals := 48 } : Room) (rc_P Y sh rf σ sz [.ref (Y.2.2.2 a0), .int u1, .int u2]) (va_Qi (fun (r' : Int32) (_ : Unit) => r' = r) (fun _ t => rc_W Y sh rf σ' t.heap) (rc_A sh sz)) 0 0 (rc_A sh sz) := by
  refine rc_ofWF (cc := cJ0_indexOf_7cf53) (maxL := 3) (ret := (some .int)) (by decide +kernel) rfl ?_
  intro p e s m args below meth c s₁ B hml hv
  obtain ⟨rfl, hsz, hW, hK, hE⟩ := hv
  have hx := B.exec
  have hb := B.bytes
  have hr := B.returns
  have hts : ∀ w ∈ rc_big, w.before _ s = true := fun w h => atoms_spec (ws := Cond.code yJ0_indexOf_7cf53 cJ0_indexOf_7cf53 3 (some .int) :: rc_big) B.pre w (List.mem_cons_of_mem _ h)
  have hown : s.vm.findClass RJ0 = some m.cls := findClass_of_methodNamed B.named
  have hlocks := B.notSynchronized
  clear B
  subst hsz
  have hS : va_S (rc_A sh s.heap.size) s.heap s.heap [] := va_S.rf
  have hl := lv_entry ([.ref (Y.2.2.2 a0), .int u1, .int u2]) (n := 3) (Nat.le_of_ble_eq_true rfl)
  rw [lg_entry_eq]
  generalize (lg_sl ([.ref (Y.2.2.2 a0), .int u1, .int u2]) ++ List.replicate (3 - (lg_sl ([.ref (Y.2.2.2 a0), .int u1, .int u2])).length) Slot.unset).toArray = ls at hl ⊢
  have hl : lv_has ls 3 [(0, .ref (Y.2.2.2 a0)), (1, .int u1), (2, .int u2)] := hl
  unfold f_J0_indexOf_7cf53 at hm
  refine lv_aload_n hx hb dJ0_indexOf_7cf53_0 rfl (lv_at hl 0 rfl) ?_
  obtain ⟨w_1, σ_1, hc_1, hm0⟩ := rc_bd_inv hm
  clear hm
  refine rc_ci hS (va_runV (As := []) (rest := []) ⟨hx, hb, hml, hown, hts⟩ (k_J0_isLatin1_aae02 l hT a0 h0 s.heap.size _ _ _ hc_1) (cwV 0 hts (rc_gV tw_5_120 tw_5_121 tw_5_122 tw_1_12 tw_5_123) rfl rfl rfl (by decide +kernel) ⟨Nat.le_of_ble_eq_true rfl, Nat.le_of_ble_eq_true rfl⟩) (rc_preVs hT hW hK hE hS h0 []) rfl rfl hl.1 rfl (lv_room (Nat.le_of_ble_eq_true rfl)) dJ0_indexOf_7cf53_1 ⟨Nat.le_of_ble_eq_true rfl, Nat.le_of_ble_eq_true rfl⟩) (fun H locs hW hS => ?_)
  have hm := hm0
  clear hm0 hc_1
  refine lv_if_eq (tgt := 23) hx hb dJ0_indexOf_7cf53_4 (by decide) (fun c_5 => ?_) (fun c_5 => ?_)
  · replace hm := rc_t hm c_5
    cases hm
  · replace hm := rc_f hm c_5
    refine lv_aload_n hx hb dJ0_indexOf_7cf53_7 rfl (lv_at hl 0 rfl) ?_
    refine vk_getf (v := .ref (Y.2.2.2 (100 + a0))) hx hb ((rc_E_S hE).1 a0 h0).2.2.1 (rc_SB hT hE hS) hown (hts _ tw_5_100) (fun _ h => h) dJ0_indexOf_7cf53_8 ?_
    refine lv_iload_n hx hb dJ0_indexOf_7cf53_11 rfl (lv_at hl 1 rfl) ?_
    refine lv_iload_n hx hb dJ0_indexOf_7cf53_12 rfl (lv_at hl 2 rfl) ?_
    refine lv_aload_n hx hb dJ0_indexOf_7cf53_13 rfl (lv_at hl 0 rfl) ?_
    obtain ⟨w_3, σ_3, hc_3, hm0⟩ := rc_bd_inv hm
    clear hm
    refine rc_ci hS (va_runV (As := []) (rest := [.int u2, .int u1, .ref (Y.2.2.2 (100 + a0))]) ⟨hx, hb, hml, hown, hts⟩ (k_J0_length_8abf5 l hT a0 h0 H.size _ _ _ hc_3) (cwV 0 hts (rc_gV tw_5_191 tw_4_212 tw_4_213 tw_1_12 tw_4_214) rfl rfl rfl (by decide +kernel) ⟨Nat.le_of_ble_eq_true rfl, Nat.le_of_ble_eq_true rfl⟩) (rc_preVs hT hW hK hE hS h0 []) rfl rfl hl.1 rfl (lv_room (Nat.le_of_ble_eq_true rfl)) dJ0_indexOf_7cf53_14 ⟨Nat.le_of_ble_eq_true rfl, Nat.le_of_ble_eq_true rfl⟩) (fun H locs hW hS => ?_)
    have hm := hm0
    clear hm0 hc_3
    obtain ⟨w_4, σ_4, hc_4, hm0⟩ := rc_bd_inv hm
    clear hm
    refine rc_ci hS (va_runS (As := [.ref (Y.2.2.2 (100 + a0)), .int u1, .int u2, .int w_3]) (rest := []) ⟨hx, hb, hml, hown, hts⟩ (k_J1_indexOf_4cfef l hT a0 u1 u2 w_3 h0 H.size _ _ _ hc_4) (va_cwS 4 hts (rc_gS tw_5_192 tw_5_193 tw_1_26 tw_5_194) rfl rfl rfl (by decide +kernel) ⟨Nat.le_of_ble_eq_true rfl, Nat.le_of_ble_eq_true rfl⟩) (rc_preS hT hW hK hE hS [.ref (Y.2.2.2 (100 + a0)), .int u1, .int u2, .int w_3]) rfl rfl hl.1 rfl (lv_room (Nat.le_of_ble_eq_true rfl)) dJ0_indexOf_7cf53_17 ⟨Nat.le_of_ble_eq_true rfl, Nat.le_of_ble_eq_true rfl⟩) (fun H locs hW hS => ?_)
    have hm := hm0
    clear hm0 hc_4
    refine lv_goto (tgt := 36) hx hb dJ0_indexOf_7cf53_20 (by decide) ?_
    exact rc_eiret hx hb hr hlocks hW hS (Nat.le_of_ble_eq_true rfl) (Nat.le_of_ble_eq_true rfl) hm dJ0_indexOf_7cf53_36
set_option maxHeartbeats 4000000 in
set_option maxRecDepth 100000 in
theorem k_J0_indexOf_0f7a4 (l : Launch) {Y : rc_Y} {sh : Nat → Nat} {rf : rc_F} (hT : rc_T Y sh rf) (a0 : Nat) (u1 : Int32) (h0 : a0 < 13) (sz : Nat) (σ σ' : rc_S) (r : Int32) (hm : f_J0_indexOf_0f7a4 rf a0 u1 σ = some (r, σ')) : Met l yJ0_indexOf_0f7a4 (Cond.code yJ0_indexOf_0f7a4 cJ0_indexOf_0f7a4 2 (some .int) :: rc_big) ({ frames := 3, cells := 0, slots := 0, locals := 70 } : Room) (rc_P Y sh rf σ sz [.ref (Y.2.2.2 a0), .int u1]) (va_Qi (fun (r' : Int32) (_ : Unit) => r' = r) (fun _ t => rc_W Y sh rf σ' t.heap) (rc_A sh sz)) 0 0 (rc_A sh sz) := by
  refine rc_ofWF (cc := cJ0_indexOf_0f7a4) (maxL := 2) (ret := (some .int)) (by decide +kernel) rfl ?_
  intro p e s m args below meth c s₁ B hml hv
  obtain ⟨rfl, hsz, hW, hK, hE⟩ := hv
  have hx := B.exec
  have hb := B.bytes
  have hr := B.returns
  have hts : ∀ w ∈ rc_big, w.before _ s = true := fun w h => atoms_spec (ws := Cond.code yJ0_indexOf_0f7a4 cJ0_indexOf_0f7a4 2 (some .int) :: rc_big) B.pre w (List.mem_cons_of_mem _ h)
  have hown : s.vm.findClass RJ0 = some m.cls := findClass_of_methodNamed B.named
  have hlocks := B.notSynchronized
  clear B
  subst hsz
  have hS : va_S (rc_A sh s.heap.size) s.heap s.heap [] := va_S.rf
  have hl := lv_entry ([.ref (Y.2.2.2 a0), .int u1]) (n := 2) (Nat.le_of_ble_eq_true rfl)
  rw [lg_entry_eq]
  generalize (lg_sl ([.ref (Y.2.2.2 a0), .int u1]) ++ List.replicate (2 - (lg_sl ([.ref (Y.2.2.2 a0), .int u1])).length) Slot.unset).toArray = ls at hl ⊢
  have hl : lv_has ls 2 [(0, .ref (Y.2.2.2 a0)), (1, .int u1)] := hl
  unfold f_J0_indexOf_0f7a4 at hm
  refine lv_aload_n hx hb dJ0_indexOf_0f7a4_0 rfl (lv_at hl 0 rfl) ?_
  refine lv_iload_n hx hb dJ0_indexOf_0f7a4_1 rfl (lv_at hl 1 rfl) ?_
  refine lv_iconst (v := 0) hx hb dJ0_indexOf_0f7a4_2 (by decide) ?_
  obtain ⟨w_1, σ_1, hc_1, hm0⟩ := rc_bd_inv hm
  clear hm
  refine rc_ci hS (va_runV (As := [.int u1, .int (0 : Int32)]) (rest := []) ⟨hx, hb, hml, hown, hts⟩ (k_J0_indexOf_7cf53 l hT a0 u1 (0 : Int32) h0 s.heap.size _ _ _ hc_1) (cwV 2 hts (rc_gV tw_5_187 tw_5_188 tw_5_189 tw_1_12 tw_5_190) rfl rfl rfl (by decide +kernel) ⟨Nat.le_of_ble_eq_true rfl, Nat.le_of_ble_eq_true rfl⟩) (rc_preVs hT hW hK hE hS h0 [.int u1, .int (0 : Int32)]) rfl rfl hl.1 rfl (lv_room (Nat.le_of_ble_eq_true rfl)) dJ0_indexOf_0f7a4_3 ⟨Nat.le_of_ble_eq_true rfl, Nat.le_of_ble_eq_true rfl⟩) (fun H locs hW hS => ?_)
  have hm := hm0
  clear hm0 hc_1
  exact rc_eiret hx hb hr hlocks hW hS (Nat.le_of_ble_eq_true rfl) (Nat.le_of_ble_eq_true rfl) hm dJ0_indexOf_0f7a4_6
set_option maxHeartbeats 4000000 in
set_option maxRecDepth 100000 in
theorem k_J5_charAt_5068e (l : Launch) {Y : rc_Y} {sh : Nat → Nat} {rf : rc_F} (hT : rc_T Y sh rf) (a0 : Nat) (u1 : Int32) (h0 : sh a0 = 11) (sz : Nat) (σ σ' : rc_S) (r : Int32) (hm : f_J5_charAt_5068e rf a0 u1 σ = some (r, σ')) : Met l yJ5_charAt_5068e (Cond.code yJ5_charAt_5068e cJ5_charAt_5068e 5 (some .char) :: rc_big) ({ frames := 2, cells := 0, slots := 0, locals := 43 } : Room) (rc_P Y sh rf σ sz [.ref a0, .int u1]) (va_Qi (fun (r' : Int32) (_ : Unit) => r' = r) (fun _ t => rc_W Y sh rf σ' t.heap) (rc_A sh sz)) 0 0 (rc_A sh sz) := by
  refine rc_ofWF (cc := cJ5_charAt_5068e) (maxL := 5) (ret := (some .char)) (by decide +kernel) rfl ?_
  intro p e s m args below meth c s₁ B hml hv
  obtain ⟨rfl, hsz, hW, hK, hE⟩ := hv
  have hx := B.exec
  have hb := B.bytes
  have hr := B.returns
  have hts : ∀ w ∈ rc_big, w.before _ s = true := fun w h => atoms_spec (ws := Cond.code yJ5_charAt_5068e cJ5_charAt_5068e 5 (some .char) :: rc_big) B.pre w (List.mem_cons_of_mem _ h)
  have hown : s.vm.findClass RJ5 = some m.cls := findClass_of_methodNamed B.named
  have hlocks := B.notSynchronized
  clear B
  subst hsz
  have hS : va_S (rc_A sh s.heap.size) s.heap s.heap [] := va_S.rf
  have hl := lv_entry ([.ref a0, .int u1]) (n := 5) (Nat.le_of_ble_eq_true rfl)
  rw [lg_entry_eq]
  generalize (lg_sl ([.ref a0, .int u1]) ++ List.replicate (5 - (lg_sl ([.ref a0, .int u1])).length) Slot.unset).toArray = ls at hl ⊢
  have hl : lv_has ls 5 [(0, .ref a0), (1, .int u1)] := hl
  unfold f_J5_charAt_5068e at hm
  refine lv_aload_n hx hb dJ5_charAt_5068e_0 rfl (lv_at hl 0 rfl) ?_
  refine rg_11_1 hx hb hts hown hK hW h0 tw_2_68 dJ5_charAt_5068e_1 ?_
  refine lv_topi (fun v2_1 ev => ?_)
  replace hm := rc_lt_at hm ev
  clear ev
  refine lv_istore_n (lv' := [(2, .int v2_1), (0, .ref a0), (1, .int u1)]) hx hb dJ5_charAt_5068e_4 rfl hl (by decide) rfl (fun ls hl => ?_)
  refine lv_aload_n hx hb dJ5_charAt_5068e_5 rfl (lv_at hl 1 rfl) ?_
  refine rg_11_0 hx hb hts hown hK hW h0 tw_2_67 dJ5_charAt_5068e_6 ?_
  refine lv_astore_n (lv' := [(3, .ref (rf a0 0)), (2, .int v2_1), (0, .ref a0), (1, .int u1)]) hx hb dJ5_charAt_5068e_9 rfl hl (by decide) rfl (fun ls hl => ?_)
  refine lv_aload_n hx hb dJ5_charAt_5068e_10 rfl (lv_at hl 2 rfl) ?_
  refine rg_11_3 hx hb hts hown hK hW h0 tw_2_71 dJ5_charAt_5068e_11 ?_
  refine lv_aload_n hx hb dJ5_charAt_5068e_14 rfl (lv_at hl 0 rfl) ?_
  refine rc_alen (v := 16) hx hb hK hW (rc_t_11_0 hT h0) (by decide) rfl 3 rfl rfl dJ5_charAt_5068e_15 ?_
  refine lv_iload_n hx hb dJ5_charAt_5068e_16 rfl (lv_at hl 1 rfl) ?_
  refine lv_ishr hx hb dJ5_charAt_5068e_17 ?_
  refine va_mmin hx hb (hml.trans hl.1.symm) hown (hts _ tw_6_138) (hts _ tw_3_31) (hts _ tw_1_22) (hts _ tw_3_32) (Nat.le_of_ble_eq_true rfl) (Nat.le_of_ble_eq_true rfl) (Nat.le_of_ble_eq_true rfl) (Nat.le_of_ble_eq_true rfl) dJ5_charAt_5068e_18 ?_
  refine lv_topi (fun v4_2 ev => ?_)
  replace hm := rc_lt_at hm ev
  clear ev
  refine lv_istore (lv' := [(4, .int v4_2), (3, .ref (rf a0 0)), (2, .int v2_1), (0, .ref a0), (1, .int u1)]) hx hb dJ5_charAt_5068e_21 hl (by decide) rfl (fun ls hl => ?_)
  refine lv_iload_n hx hb dJ5_charAt_5068e_23 rfl (lv_at hl 4 rfl) ?_
  refine lv_iload hx hb dJ5_charAt_5068e_24 (lv_at hl 0 rfl) ?_
  obtain ⟨w_3, σ_3, hc_3, hm0⟩ := rc_bd_inv hm
  clear hm
  refine rc_cv hS (va_runS (As := [.int u1, .int v4_2]) (rest := []) ⟨hx, hb, hml, hown, hts⟩ (k_J0_checkIndex_df160 l hT u1 v4_2  s.heap.size _ _ _ hc_3) (va_cwS 2 hts (rc_gS tw_6_139 tw_5_128 tw_1_12 tw_5_129) rfl rfl rfl (by decide +kernel) ⟨Nat.le_of_ble_eq_true rfl, Nat.le_of_ble_eq_true rfl⟩) (rc_preS hT hW hK hE hS [.int u1, .int v4_2]) rfl rfl hl.1 rfl (lv_room (Nat.le_of_ble_eq_true rfl)) dJ5_charAt_5068e_26 ⟨Nat.le_of_ble_eq_true rfl, Nat.le_of_ble_eq_true rfl⟩) (fun H locs hW hS => ?_)
  have hm := hm0
  clear hm0 hc_3
  refine lv_iload_n hx hb dJ5_charAt_5068e_29 rfl (lv_at hl 2 rfl) ?_
  refine lv_if_ne (tgt := 42) hx hb dJ5_charAt_5068e_30 (by decide) (fun c_5 => ?_) (fun c_5 => ?_)
  · replace hm := rc_f hm c_5
    cases hm
  · replace hm := rc_t hm c_5
    refine lv_aload_n hx hb dJ5_charAt_5068e_33 rfl (lv_at hl 1 rfl) ?_
    refine lv_iload_n hx hb dJ5_charAt_5068e_34 rfl (lv_at hl 4 rfl) ?_
    have hi_4 := (rc_ix hm).1
    replace hm := (rc_ix hm).2
    refine rc_baldj (j := u1.toNatClampNeg) hx hb hK hW (rc_t_11_0 hT h0) (by decide) rfl hi_4 rfl dJ5_charAt_5068e_35 ?_
    refine lv_sipush (v := 255) hx hb dJ5_charAt_5068e_36 (by decide) ?_
    refine lv_iand hx hb dJ5_charAt_5068e_39 ?_
    refine lv_i2c (v := (((σ_3 (rf a0 0) u1.toNatClampNeg) &&& (255 : Int32)).toUInt32 % 65536).toInt32) hx hb dJ5_charAt_5068e_40 rfl ?_
    have hn := (rc_dc hm).1
    replace hm := (rc_dc hm).2
    exact rc_ezret hx hb hr hlocks hW hS (Nat.le_of_ble_eq_true rfl) (Nat.le_of_ble_eq_true rfl) (rc_narc hn) hm dJ5_charAt_5068e_41
