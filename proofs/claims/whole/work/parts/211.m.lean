def f_X9_character (rf : rc_F) (a0 : Nat) (u1 : Int32) (σ : rc_S) : Option (Int32 × rc_S) :=
  rc_bd (f_X9_in rf u1 (0 : Int32) ((σ a0 11) - (1 : Int32)) σ) fun w_1 σ_1 =>
  if w_1 = 0 then
    rc_lt (rc_up σ_1 a0 0 (1 : Int32)) fun σ_2 =>
    if (σ_2 a0 0) ≤ 0 then
      rc_ck (rc_in u1 60) <|
      rc_ck (decide (vp_nar .char (((σ_2 (rf a0 9) u1.toNatClampNeg).toUInt32 % 65536).toInt32) = ((σ_2 (rf a0 9) u1.toNatClampNeg).toUInt32 % 65536).toInt32)) <|
      some (((σ_2 (rf a0 9) u1.toNatClampNeg).toUInt32 % 65536).toInt32, σ_2)
    else
      some ((0 : Int32), σ_2)
  else
    rc_lt (rc_up σ_1 a0 0 (0 : Int32)) fun σ_5 =>
    if (σ_5 a0 0) ≤ 0 then
      rc_ck (rc_in u1 60) <|
      rc_ck (decide (vp_nar .char (((σ_5 (rf a0 9) u1.toNatClampNeg).toUInt32 % 65536).toInt32) = ((σ_5 (rf a0 9) u1.toNatClampNeg).toUInt32 % 65536).toInt32)) <|
      some (((σ_5 (rf a0 9) u1.toNatClampNeg).toUInt32 % 65536).toInt32, σ_5)
    else
      some ((0 : Int32), σ_5)
def f_X9_meanNote_6 (rf : rc_F) (a0 : Nat) (K : Int32 → Int32 → Int32 → rc_S → Option (UInt64 × rc_S)) : Nat → Int32 → Int32 → Int32 → rc_S → Option (UInt64 × rc_S)
  | 0, _, _, _, _ => none
  | n + 1, v1, v2, v3, σ =>
    if (σ (rf a0 1) 0) ≤ v3 then
      K v1 v2 v3 σ
    else
      rc_bd (f_X9_noteOf rf a0 v3 (0 : Int32) σ) fun w_1 σ_1 =>
      rc_lt (v1 + w_1) fun v1_2 =>
      rc_bd (f_X9_of rf a0 v3 (1 : Int32) σ_1) fun w_3 σ_3 =>
      if w_3 ≤ 0 then
        rc_lt (v2 + (0 : Int32)) fun v2_4 =>
        rc_lt (v3 + 1) fun v3_5 =>
        f_X9_meanNote_6 rf a0 K n v1_2 v2_4 v3_5 σ_3
      else
        rc_lt (v2 + (1 : Int32)) fun v2_6 =>
        rc_lt (v3 + 1) fun v3_7 =>
        f_X9_meanNote_6 rf a0 K n v1_2 v2_6 v3_7 σ_3
def f_X9_meanNote (rf : rc_F) (a0 : Nat) (σ : rc_S) : Option (UInt64 × rc_S) :=
  f_X9_meanNote_6 rf a0 (fun v1_10 v2_11 v3_12 σ_13 =>
    if v2_11 = 0 then
      rc_lt (rc_up σ_13 a0 0 (1 : Int32)) fun σ_17 =>
      if v2_11 = 0 then
        some (FP.dconst0, σ_17)
      else
        rc_ck (decide ((FP.ddiv (FP.i2d v1_10) (FP.i2d v2_11)) &&& 0x7fffffffffffffff ≤ 0x7ff0000000000000)) <|
        some (FP.ddiv (FP.i2d v1_10) (FP.i2d v2_11), σ_17)
    else
      rc_lt (rc_up σ_13 a0 0 (0 : Int32)) fun σ_14 =>
      if v2_11 = 0 then
        some (FP.dconst0, σ_14)
      else
        rc_ck (decide ((FP.ddiv (FP.i2d v1_10) (FP.i2d v2_11)) &&& 0x7fffffffffffffff ≤ 0x7ff0000000000000)) <|
        some (FP.ddiv (FP.i2d v1_10) (FP.i2d v2_11), σ_14)
  ) rc_fu (0 : Int32) (0 : Int32) (0 : Int32) σ
def f_X9_hailShare_4 (rf : rc_F) (a0 : Nat) (K : Int32 → Int32 → rc_S → Option (UInt32 × rc_S)) : Nat → Int32 → Int32 → rc_S → Option (UInt32 × rc_S)
  | 0, _, _, _ => none
  | n + 1, v1, v2, σ =>
    if (σ (rf a0 1) 0) ≤ v2 then
      K v1 v2 σ
    else
      rc_bd (f_X9_of rf a0 v2 (2 : Int32) σ) fun w_1 σ_1 =>
      rc_lt (v1 + w_1) fun v1_2 =>
      rc_lt (v2 + 1) fun v2_3 =>
      f_X9_hailShare_4 rf a0 K n v1_2 v2_3 σ_1
def f_X9_hailShare (rf : rc_F) (a0 : Nat) (σ : rc_S) : Option (UInt32 × rc_S) :=
  f_X9_hailShare_4 rf a0 (fun v1_5 v2_6 σ_7 =>
    rc_bd (f_X9_allLitres rf a0 σ_7) fun w_8 σ_8 =>
    if w_8 = 0 then
      rc_lt (rc_up σ_8 a0 0 (1 : Int32)) fun σ_13 =>
      if (σ_13 a0 0) ≤ 0 then
        rc_bd (f_X9_allLitres rf a0 σ_13) fun w_14 σ_14 =>
        rc_ck (decide ((FP.fdiv (FP.i2f v1_5) (FP.i2f w_14)) &&& 0x7fffffff ≤ 0x7f800000)) <|
        some (FP.fdiv (FP.i2f v1_5) (FP.i2f w_14), σ_14)
      else
        some (FP.fconst0, σ_13)
    else
      rc_lt (rc_up σ_8 a0 0 (0 : Int32)) fun σ_9 =>
      if (σ_9 a0 0) ≤ 0 then
        rc_bd (f_X9_allLitres rf a0 σ_9) fun w_10 σ_10 =>
        rc_ck (decide ((FP.fdiv (FP.i2f v1_5) (FP.i2f w_10)) &&& 0x7fffffff ≤ 0x7f800000)) <|
        some (FP.fdiv (FP.i2f v1_5) (FP.i2f w_10), σ_10)
      else
        some (FP.fconst0, σ_9)
  ) rc_fu (0 : Int32) (0 : Int32) σ
def f_X9_account (rf : rc_F) (a0 : Nat) (u1 : Int32) (σ : rc_S) : Option (Int32 × rc_S) :=
  rc_lt (rc_up σ a0 0 (0 : Int32)) fun σ_1 =>
  if u1 = (0 : Int32) then
    some ((σ_1 (rf a0 1) 0), σ_1)
  else
  if u1 = (1 : Int32) then
    rc_bd (f_X9_allLitres rf a0 σ_1) fun w_4 σ_4 =>
    some (w_4, σ_4)
  else
  if u1 = (2 : Int32) then
    some ((σ_1 (rf a0 1) 2), σ_1)
  else
  if u1 = (3 : Int32) then
    some ((σ_1 (rf a0 1) 1), σ_1)
  else
  if u1 = (4 : Int32) then
    some ((σ_1 (rf a0 1) 3), σ_1)
  else
  if u1 = (5 : Int32) then
    some ((σ_1 (rf a0 1) 4), σ_1)
  else
  if u1 = (6 : Int32) then
    some ((σ_1 (rf a0 1) 7), σ_1)
  else
  if u1 = (7 : Int32) then
    some ((σ_1 (rf a0 1) 8), σ_1)
  else
  if u1 = (8 : Int32) then
    some ((σ_1 (rf a0 1) 9), σ_1)
  else
  if u1 = (9 : Int32) then
    some ((σ_1 (rf a0 1) 10), σ_1)
  else
  if u1 = (10 : Int32) then
    some ((σ_1 a0 5), σ_1)
  else
  if u1 = (11 : Int32) then
    some ((σ_1 a0 10), σ_1)
  else
  rc_bd (f_X9_fails rf a0 (1 : Int32) σ_1) fun w_15 σ_15 =>
  some (w_15, σ_15)
def f_X9_undo_30 (rf : rc_F) (a0 : Nat) (K : Int32 → rc_S → Option (Int32 × rc_S)) : Nat → Int32 → rc_S → Option (Int32 × rc_S)
  | 0, _, _ => none
  | n + 1, v1, σ =>
    if (107 : Int32) ≤ v1 then
      K v1 σ
    else
      rc_ck (rc_in (((107 : Int32) * (σ a0 5)) + v1) 856) <|
      rc_ck (rc_in v1 107) <|
      rc_lt (rc_up σ (rf a0 1) v1.toNatClampNeg (σ (rf a0 4) (((107 : Int32) * (σ a0 5)) + v1).toNatClampNeg)) fun σ_5 =>
      rc_lt (v1 + 1) fun v1_6 =>
      f_X9_undo_30 rf a0 K n v1_6 σ_5
def f_X9_undo (rf : rc_F) (a0 : Nat) (σ : rc_S) : Option (Int32 × rc_S) :=
  rc_lt (rc_up σ a0 0 (0 : Int32)) fun σ_1 =>
  if (σ_1 a0 5) = 0 then
    rc_bd (f_X9_fails rf a0 (1 : Int32) σ_1) fun w_10 σ_10 =>
    some (w_10, σ_10)
  else
    rc_lt (rc_up σ_1 a0 5 ((σ_1 a0 5) - (1 : Int32))) fun σ_2 =>
    f_X9_undo_30 rf a0 (fun v1_8 σ_9 =>
      some ((σ_9 a0 5), σ_9)
    ) rc_fu (0 : Int32) σ_2
def f_X9_save_7 (rf : rc_F) (a0 : Nat) (K : Int32 → rc_S → Option (Int32 × rc_S)) : Nat → Int32 → rc_S → Option (Int32 × rc_S)
  | 0, _, _ => none
  | n + 1, v1, σ =>
    if (107 : Int32) ≤ v1 then
      K v1 σ
    else
      rc_ck (rc_in v1 107) <|
      rc_ck (rc_in v1 107) <|
      rc_lt (rc_up σ (rf a0 3) v1.toNatClampNeg (σ (rf a0 1) v1.toNatClampNeg)) fun σ_4 =>
      rc_lt (v1 + 1) fun v1_5 =>
      f_X9_save_7 rf a0 K n v1_5 σ_4
def f_X9_save (rf : rc_F) (a0 : Nat) (σ : rc_S) : Option (Int32 × rc_S) :=
  rc_lt (rc_up σ a0 0 (0 : Int32)) fun σ_1 =>
  f_X9_save_7 rf a0 (fun v1_7 σ_8 =>
    rc_lt (rc_up σ_8 a0 6 (1 : Int32)) fun σ_9 =>
    some ((σ_9 (rf a0 1) 0), σ_9)
  ) rc_fu (0 : Int32) σ_1
def f_X9_restore_20 (rf : rc_F) (a0 : Nat) (K : Int32 → rc_S → Option (Int32 × rc_S)) : Nat → Int32 → rc_S → Option (Int32 × rc_S)
  | 0, _, _ => none
  | n + 1, v1, σ =>
    if (107 : Int32) ≤ v1 then
      K v1 σ
    else
      rc_ck (rc_in v1 107) <|
      rc_ck (rc_in v1 107) <|
      rc_lt (rc_up σ (rf a0 1) v1.toNatClampNeg (σ (rf a0 3) v1.toNatClampNeg)) fun σ_4 =>
      rc_lt (v1 + 1) fun v1_5 =>
      f_X9_restore_20 rf a0 K n v1_5 σ_4
def f_X9_restore (rf : rc_F) (a0 : Nat) (σ : rc_S) : Option (Int32 × rc_S) :=
  rc_lt (rc_up σ a0 0 (0 : Int32)) fun σ_1 =>
  if (σ_1 a0 6) = 0 then
    rc_bd (f_X9_fails rf a0 (1 : Int32) σ_1) fun w_10 σ_10 =>
    some (w_10, σ_10)
  else
    f_X9_restore_20 rf a0 (fun v1_7 σ_8 =>
      rc_lt (rc_up σ_8 a0 5 (0 : Int32)) fun σ_9 =>
      some ((σ_9 (rf a0 1) 0), σ_9)
    ) rc_fu (0 : Int32) σ_1
def f_X0_copy (rf : rc_F) (a0 : Nat) (q1 : Nat) (σ : rc_S) : Option (Unit × rc_S) :=
  rc_lt (rc_up σ a0 0 (σ q1 0)) fun σ_1 =>
  rc_lt (rc_up σ_1 a0 1 (σ_1 q1 1)) fun σ_2 =>
  rc_lt (rc_up σ_2 a0 2 (σ_2 q1 2)) fun σ_3 =>
  rc_bd (f_X0_copyVintage rf a0 q1 σ_3) fun _ σ_4 =>
  some ((), σ_4)
def f_X0_hailPart (rf : rc_F) (a0 : Nat) (σ : rc_S) : Option (Int32 × rc_S) :=
  rc_bd (f_X0_hailPartWith rf a0 (0 : Int32) σ) fun w_1 σ_1 =>
  some (w_1, σ_1)
def f_X0_noteOfTaste (rf : rc_F) (a0 : Nat) (u1 : Int32) (σ : rc_S) : Option (Int32 × rc_S) :=
  rc_bd (f_X0_hailPart rf a0 σ) fun w_1 σ_1 =>
  some (((u1 * ((100 : Int32) - w_1)) / (100 : Int32)), σ_1)
def f_X0_hailIn (rf : rc_F) (a0 : Nat) (u1 : Int32) (σ : rc_S) : Option (Int32 × rc_S) :=
  rc_lt ((σ a0 1) - (σ a0 2)) fun v2_1 =>
  rc_bd (f_X0_hailPart rf a0 σ) fun w_2 σ_2 =>
  some ((if ((u1 * w_2) / (100 : Int32)) < (u1 - v2_1) then (u1 - v2_1) else ((u1 * w_2) / (100 : Int32))), σ_2)
def f_X1_copy_2 (rf : rc_F) (a0 : Nat) (r1 : Nat) (K : Int32 → rc_S → Option (Unit × rc_S)) : Nat → Int32 → rc_S → Option (Unit × rc_S)
  | 0, _, _ => none
  | n + 1, v2, σ =>
    if (4 : Int32) ≤ v2 then
      K v2 σ
    else
      rc_ck (rc_in v2 4) <|
      rc_ck (rc_in v2 4) <|
      rc_lt (rc_up σ (rf a0 0) v2.toNatClampNeg (σ (rf r1 0) v2.toNatClampNeg)) fun σ_3 =>
      rc_lt (v2 + 1) fun v2_4 =>
      f_X1_copy_2 rf a0 r1 K n v2_4 σ_3
def f_X1_copy_27 (rf : rc_F) (a0 : Nat) (r1 : Nat) (K : Int32 → rc_S → Option (Unit × rc_S)) : Nat → Int32 → rc_S → Option (Unit × rc_S)
  | 0, _, _ => none
  | n + 1, v2, σ =>
    if (8 : Int32) ≤ v2 then
      K v2 σ
    else
      rc_ck (rc_in v2 8) <|
      rc_ck (rc_in v2 8) <|
      rc_bd (f_X0_copy rf (rf (rf a0 1) v2.toNatClampNeg) (rf (rf r1 1) v2.toNatClampNeg) σ) fun _ σ_10 =>
      rc_lt (v2 + 1) fun v2_11 =>
      f_X1_copy_27 rf a0 r1 K n v2_11 σ_10
def f_X1_copy_56 (rf : rc_F) (a0 : Nat) (r1 : Nat) (K : Int32 → rc_S → Option (Unit × rc_S)) : Nat → Int32 → rc_S → Option (Unit × rc_S)
  | 0, _, _ => none
  | n + 1, v2, σ =>
    if (12 : Int32) ≤ v2 then
      K v2 σ
    else
      rc_ck (rc_in v2 12) <|
      rc_ck (rc_in v2 12) <|
      rc_bd (f_X4_copy rf (rf (rf a0 4) v2.toNatClampNeg) (rf (rf r1 4) v2.toNatClampNeg) σ) fun _ σ_17 =>
      rc_lt (v2 + 1) fun v2_18 =>
      f_X1_copy_56 rf a0 r1 K n v2_18 σ_17
def f_X1_copy (rf : rc_F) (a0 : Nat) (q1 : Nat) (σ : rc_S) : Option (Unit × rc_S) :=
  f_X1_copy_2 rf a0 q1 (fun v2_6 σ_7 =>
    f_X1_copy_27 rf a0 q1 (fun v2_13 σ_14 =>
      f_X1_copy_56 rf a0 q1 (fun v2_20 σ_21 =>
        rc_bd (f_X3_copy rf (rf a0 3) (rf q1 3) σ_21) fun _ σ_22 =>
        rc_bd (f_X1_copyCounts rf a0 q1 σ_22) fun _ σ_23 =>
        some ((), σ_23)
      ) rc_fu (0 : Int32) σ_14
    ) rc_fu (0 : Int32) σ_7
  ) rc_fu (0 : Int32) σ
def f_X1_dropBarrel_2 (rf : rc_F) (a0 : Nat) (K : Int32 → rc_S → Option (Unit × rc_S)) : Nat → Int32 → rc_S → Option (Unit × rc_S)
  | 0, _, _ => none
  | n + 1, v2, σ =>
    if (σ a0 2) ≤ (v2 + (1 : Int32)) then
      K v2 σ
    else
      rc_ck (rc_in v2 8) <|
      rc_ck (rc_in (v2 + (1 : Int32)) 8) <|
      rc_bd (f_X0_copy rf (rf (rf a0 1) v2.toNatClampNeg) (rf (rf a0 1) (v2 + (1 : Int32)).toNatClampNeg) σ) fun _ σ_3 =>
      rc_lt (v2 + 1) fun v2_4 =>
      f_X1_dropBarrel_2 rf a0 K n v2_4 σ_3
def f_X1_dropBarrel (rf : rc_F) (a0 : Nat) (u1 : Int32) (σ : rc_S) : Option (Unit × rc_S) :=
  f_X1_dropBarrel_2 rf a0 (fun v2_6 σ_7 =>
    rc_lt (rc_up σ_7 a0 2 ((σ_7 a0 2) - (1 : Int32))) fun σ_8 =>
    some ((), σ_8)
  ) rc_fu u1 σ
def f_X1_litresIntoBarrels_4 (rf : rc_F) (a0 : Nat) (v1 : Int32) (K : Int32 → Int32 → rc_S → Option (Int32 × rc_S)) : Nat → Int32 → Int32 → rc_S → Option (Int32 × rc_S)
  | 0, _, _, _ => none
  | n + 1, v2, v3, σ =>
    if (4 : Int32) ≤ v3 then
      K v2 v3 σ
    else
      rc_bd (f_X8_litresOnRoof rf v3 v1 σ) fun w_1 σ_1 =>
      rc_bd (f_X1_emptyUnder rf a0 v3 σ_1) fun w_2 σ_2 =>
      rc_lt (v2 + (if ((20 : Int32) * w_2) < w_1 then ((20 : Int32) * w_2) else w_1)) fun v2_3 =>
      rc_lt (v3 + 1) fun v3_4 =>
      f_X1_litresIntoBarrels_4 rf a0 v1 K n v2_3 v3_4 σ_2
def f_X1_litresIntoBarrels (rf : rc_F) (a0 : Nat) (u1 : Int32) (σ : rc_S) : Option (Int32 × rc_S) :=
  f_X1_litresIntoBarrels_4 rf a0 u1 (fun v2_6 v3_7 σ_8 =>
    some (v2_6, σ_8)
  ) rc_fu (0 : Int32) (0 : Int32) σ
set_option maxHeartbeats 4000000 in
set_option maxRecDepth 100000 in
theorem k_X9_character (l : Launch) {Y : rc_Y} {sh : Nat → Nat} {rf : rc_F} (hT : rc_T Y sh rf) (a0 : Nat) (u1 : Int32) (h0 : sh a0 = 10) (sz : Nat) (σ σ' : rc_S) (r : Int32) (hm : f_X9_character rf a0 u1 σ = some (r, σ')) : Met l yX9_character (Cond.code yX9_character cX9_character 2 (some .char) :: rc_big) ({ frames := 1, cells := 0, slots := 0, locals := 22 } : Room) (rc_P Y sh rf σ sz [.ref a0, .int u1]) (va_Qi (fun (r' : Int32) (_ : Unit) => r' = r) (fun _ t => rc_W Y sh rf σ' t.heap) (rc_A sh sz)) 0 0 (rc_A sh sz) := by
  refine Met.ofW (cc := cX9_character) (maxL := 2) (ret := (some .char)) (by decide +kernel) rfl ?_
  intro p e s m args below meth c s₁ B hml hv
  obtain ⟨rfl, hsz, hW, hK, hE⟩ := hv
  have hx := B.exec
  have hb := B.bytes
  have hr := B.returns
  have hts : ∀ w ∈ rc_big, w.before _ s = true := fun w h => atoms_spec (ws := Cond.code yX9_character cX9_character 2 (some .char) :: rc_big) B.pre w (List.mem_cons_of_mem _ h)
  have hown : s.vm.findClass RX9 = some m.cls := findClass_of_methodNamed B.named
  have hlocks := B.notSynchronized
  clear B
  subst hsz
  have hS : va_S (rc_A sh s.heap.size) s.heap s.heap [] := va_S.rf
  have hl := lv_entry ([.ref a0, .int u1]) (n := 2) (Nat.le_of_ble_eq_true rfl)
  rw [lg_entry_eq]
  generalize (lg_sl ([.ref a0, .int u1]) ++ List.replicate (2 - (lg_sl ([.ref a0, .int u1])).length) Slot.unset).toArray = ls at hl ⊢
  have hl : lv_has ls 2 [(0, .ref a0), (1, .int u1)] := hl
  unfold f_X9_character at hm
  refine lv_aload_n hx hb dX9_character_0 rfl (lv_at hl 0 rfl) ?_
  refine lv_iload_n hx hb dX9_character_1 rfl (lv_at hl 1 rfl) ?_
  refine lv_iconst (v := 0) hx hb dX9_character_2 (by decide) ?_
  refine lv_aload_n hx hb dX9_character_3 rfl (lv_at hl 0 rfl) ?_
  refine rg_10_11 hx hb hts hown hK hW h0 tw_7_80 dX9_character_4 ?_
  refine lv_iconst (v := 1) hx hb dX9_character_7 (by decide) ?_
  refine lv_isub hx hb dX9_character_8 ?_
  obtain ⟨w_1, σ_1, hc_1, hm0⟩ := rc_bd_inv hm
  clear hm
  refine rc_ci hS (va_runS (As := [.int u1, .int (0 : Int32), .int ((σ a0 11) - (1 : Int32))]) (rest := [.ref a0]) ⟨hx, hb, hml, hown, hts⟩ (k_X9_in l hT u1 (0 : Int32) ((σ a0 11) - (1 : Int32))  s.heap.size _ _ _ hc_1) (va_cwS 3 hts (rc_gS tw_7_152 tw_7_153 tw_1_14 tw_7_154) rfl rfl rfl (by decide +kernel) ⟨Nat.le_of_ble_eq_true rfl, Nat.le_of_ble_eq_true rfl⟩) (rc_preS hT hW hK hE hS [.int u1, .int (0 : Int32), .int ((σ a0 11) - (1 : Int32))]) rfl rfl hl.1 rfl (lv_room (Nat.le_of_ble_eq_true rfl)) dX9_character_9 ⟨Nat.le_of_ble_eq_true rfl, Nat.le_of_ble_eq_true rfl⟩) (fun H locs hW hS => ?_)
  have hm := hm0
  clear hm0 hc_1
  refine lv_if_eq (tgt := 19) hx hb dX9_character_12 (by decide) (fun c_8 => ?_) (fun c_8 => ?_)
  · replace hm := rc_t hm c_8
    refine lv_iconst (v := 1) hx hb dX9_character_19 (by decide) ?_
    refine rp_10_0 hx hb hts hown hK hW hS h0 tw_7_69 dX9_character_20 (fun σ_2 H locs eσ hW hS => ?_)
    replace hm := rc_lt_at hm eσ
    clear eσ
    refine lv_aload_n hx hb dX9_character_23 rfl (lv_at hl 0 rfl) ?_
    refine rg_10_0 hx hb hts hown hK hW h0 tw_7_69 dX9_character_24 ?_
    refine lv_if_le (tgt := 34) hx hb dX9_character_27 (by decide) (fun c_4 => ?_) (fun c_4 => ?_)
    · replace hm := rc_t hm c_4
      refine lv_aload_n hx hb dX9_character_34 rfl (lv_at hl 0 rfl) ?_
      refine rg_10_9 hx hb hts hown hK hW h0 tw_7_78 dX9_character_35 ?_
      refine lv_iload_n hx hb dX9_character_38 rfl (lv_at hl 1 rfl) ?_
      have hi_3 := (rc_ix hm).1
      replace hm := (rc_ix hm).2
      refine rc_ialdj (j := u1.toNatClampNeg) hx hb hK hW (rc_t_10_9 hT h0) (by decide) rfl hi_3 rfl dX9_character_39 ?_
      refine lv_i2c (v := ((σ_2 (rf a0 9) u1.toNatClampNeg).toUInt32 % 65536).toInt32) hx hb dX9_character_40 rfl ?_
      have hn := (rc_dc hm).1
      replace hm := (rc_dc hm).2
      exact rc_ezret hx hb hr hlocks hW hS (Nat.le_of_ble_eq_true rfl) (Nat.le_of_ble_eq_true rfl) (rc_narc hn) hm dX9_character_41
    · replace hm := rc_f hm c_4
      refine lv_iconst (v := 0) hx hb dX9_character_30 (by decide) ?_
      refine lv_goto (tgt := 41) hx hb dX9_character_31 (by decide) ?_
      exact rc_ezret hx hb hr hlocks hW hS (Nat.le_of_ble_eq_true rfl) (Nat.le_of_ble_eq_true rfl) rfl hm dX9_character_41
  · replace hm := rc_f hm c_8
    refine lv_iconst (v := 0) hx hb dX9_character_15 (by decide) ?_
    refine lv_goto (tgt := 20) hx hb dX9_character_16 (by decide) ?_
    refine rp_10_0 hx hb hts hown hK hW hS h0 tw_7_69 dX9_character_20 (fun σ_5 H locs eσ hW hS => ?_)
    replace hm := rc_lt_at hm eσ
    clear eσ
    refine lv_aload_n hx hb dX9_character_23 rfl (lv_at hl 0 rfl) ?_
    refine rg_10_0 hx hb hts hown hK hW h0 tw_7_69 dX9_character_24 ?_
    refine lv_if_le (tgt := 34) hx hb dX9_character_27 (by decide) (fun c_7 => ?_) (fun c_7 => ?_)
    · replace hm := rc_t hm c_7
      refine lv_aload_n hx hb dX9_character_34 rfl (lv_at hl 0 rfl) ?_
      refine rg_10_9 hx hb hts hown hK hW h0 tw_7_78 dX9_character_35 ?_
      refine lv_iload_n hx hb dX9_character_38 rfl (lv_at hl 1 rfl) ?_
      have hi_6 := (rc_ix hm).1
      replace hm := (rc_ix hm).2
      refine rc_ialdj (j := u1.toNatClampNeg) hx hb hK hW (rc_t_10_9 hT h0) (by decide) rfl hi_6 rfl dX9_character_39 ?_
      refine lv_i2c (v := ((σ_5 (rf a0 9) u1.toNatClampNeg).toUInt32 % 65536).toInt32) hx hb dX9_character_40 rfl ?_
      have hn := (rc_dc hm).1
      replace hm := (rc_dc hm).2
      exact rc_ezret hx hb hr hlocks hW hS (Nat.le_of_ble_eq_true rfl) (Nat.le_of_ble_eq_true rfl) (rc_narc hn) hm dX9_character_41
    · replace hm := rc_f hm c_7
      refine lv_iconst (v := 0) hx hb dX9_character_30 (by decide) ?_
      refine lv_goto (tgt := 41) hx hb dX9_character_31 (by decide) ?_
      exact rc_ezret hx hb hr hlocks hW hS (Nat.le_of_ble_eq_true rfl) (Nat.le_of_ble_eq_true rfl) rfl hm dX9_character_41
set_option maxHeartbeats 4000000 in
set_option maxRecDepth 100000 in
theorem k_X9_meanNote (l : Launch) {Y : rc_Y} {sh : Nat → Nat} {rf : rc_F} (hT : rc_T Y sh rf) (a0 : Nat) (h0 : sh a0 = 10) (sz : Nat) (σ σ' : rc_S) (r : UInt64) (hm : f_X9_meanNote rf a0 σ = some (r, σ')) : Met l yX9_meanNote (Cond.code yX9_meanNote cX9_meanNote 4 (some .double) :: rc_big) ({ frames := 3, cells := 0, slots := 0, locals := 66 } : Room) (rc_P Y sh rf σ sz [.ref a0]) (va_Qd (fun (r' : UInt64) (_ : Unit) => r' = r) (fun _ t => rc_W Y sh rf σ' t.heap) (rc_A sh sz)) 0 0 (rc_A sh sz) := by
  refine Met.ofW (cc := cX9_meanNote) (maxL := 4) (ret := (some .double)) (by decide +kernel) rfl ?_
  intro p e s m args below meth c s₁ B hml hv
  obtain ⟨rfl, hsz, hW, hK, hE⟩ := hv
  have hx := B.exec
  have hb := B.bytes
  have hr := B.returns
  have hts : ∀ w ∈ rc_big, w.before _ s = true := fun w h => atoms_spec (ws := Cond.code yX9_meanNote cX9_meanNote 4 (some .double) :: rc_big) B.pre w (List.mem_cons_of_mem _ h)
  have hown : s.vm.findClass RX9 = some m.cls := findClass_of_methodNamed B.named
  have hlocks := B.notSynchronized
  clear B
  subst hsz
  have hS : va_S (rc_A sh s.heap.size) s.heap s.heap [] := va_S.rf
  have hl := lv_entry ([.ref a0]) (n := 4) (Nat.le_of_ble_eq_true rfl)
  rw [lg_entry_eq]
  generalize (lg_sl ([.ref a0]) ++ List.replicate (4 - (lg_sl ([.ref a0])).length) Slot.unset).toArray = ls at hl ⊢
  have hl : lv_has ls 4 [(0, .ref a0)] := hl
  have lp_6 : ∀ (K : Int32 → Int32 → Int32 → rc_S → Option (UInt64 × rc_S)) (hKK : ∀ (v1 v2 v3 : Int32) (σ : rc_S) (H : Heap) (locs : List Loc) (ls : Array Slot), K v1 v2 v3 σ = some (r, σ') → rc_W Y sh rf σ H → va_S (rc_A sh s.heap.size) s.heap H locs → lv_has ls 4 [(0, .ref a0), (1, .int v1), (2, .int v2)] → W p l e (headSpec (Cond.code yX9_meanNote cX9_meanNote 4 (some .double) :: rc_big) ({ frames := 3, cells := 0, slots := 0, locals := 66 } : Room)).room s m (([.ref a0] : List Value).toArray) below meth c H locs 0 0 (MQ below (va_Qd (fun (r' : UInt64) (_ : Unit) => r' = r) (fun _ t => rc_W Y sh rf σ' t.heap) (rc_A sh s.heap.size)) ([.ref a0] : List Value).toArray s 0 0 (rc_A sh s.heap.size)) (F0 m 48 ls [])) (n : Nat) (v1 v2 v3 : Int32) (σ : rc_S) (H : Heap) (locs : List Loc) (ls : Array Slot), f_X9_meanNote_6 rf a0 K n v1 v2 v3 σ = some (r, σ') → rc_W Y sh rf σ H → va_S (rc_A sh s.heap.size) s.heap H locs → lv_has ls 4 [(0, .ref a0), (1, .int v1), (2, .int v2), (3, .int v3)] → W p l e (headSpec (Cond.code yX9_meanNote cX9_meanNote 4 (some .double) :: rc_big) ({ frames := 3, cells := 0, slots := 0, locals := 66 } : Room)).room s m (([.ref a0] : List Value).toArray) below meth c H locs 0 0 (MQ below (va_Qd (fun (r' : UInt64) (_ : Unit) => r' = r) (fun _ t => rc_W Y sh rf σ' t.heap) (rc_A sh s.heap.size)) ([.ref a0] : List Value).toArray s 0 0 (rc_A sh s.heap.size)) (F0 m 6 ls []) := by
    intro  K hKK n
    induction n with
    | zero =>
      intro v1 v2 v3 σ H locs ls hm
      rw [f_X9_meanNote_6] at hm
      cases hm
    | succ n ih =>
      intro v1 v2 v3 σ H locs ls hm hW hS hl
      rw [f_X9_meanNote_6] at hm
      refine lv_iload_n hx hb dX9_meanNote_6 rfl (lv_at hl 3 rfl) ?_
      refine lv_aload_n hx hb dX9_meanNote_7 rfl (lv_at hl 0 rfl) ?_
      refine rg_10_1 hx hb hts hown hK hW h0 tw_7_70 dX9_meanNote_8 ?_
      refine lv_iconst (v := 0) hx hb dX9_meanNote_11 (by decide) ?_
      refine rc_ialdj (j := 0) hx hb hK hW (rc_t_10_1 hT h0) (by decide) rfl (rc_inD (by decide)) (by decide) dX9_meanNote_12 ?_
      refine lv_icmp_ge (tgt := 48) hx hb dX9_meanNote_13 (by decide) (fun c_9 => ?_) (fun c_9 => ?_)
      · replace hm := rc_t hm c_9
        exact hKK v1 v2 v3 σ _ _ _ hm hW hS (lv_sub hl [0, 1, 2] rfl)
      · replace hm := rc_f hm c_9
        refine lv_iload_n hx hb dX9_meanNote_16 rfl (lv_at hl 1 rfl) ?_
        refine lv_aload_n hx hb dX9_meanNote_17 rfl (lv_at hl 0 rfl) ?_
        refine lv_iload_n hx hb dX9_meanNote_18 rfl (lv_at hl 3 rfl) ?_
        refine lv_iconst (v := 0) hx hb dX9_meanNote_19 (by decide) ?_
        obtain ⟨w_1, σ_1, hc_1, hm0⟩ := rc_bd_inv hm
        clear hm
        refine rc_ci hS (va_runV (As := [.int v3, .int (0 : Int32)]) (rest := [.int v1]) ⟨hx, hb, hml, hown, hts⟩ (k_X9_noteOf l hT a0 v3 (0 : Int32) h0 H.size _ _ _ hc_1) (cwV 2 hts (rc_gV tw_8_42 tw_8_44 tw_p_42 tw_1_14 tw_8_45) rfl rfl rfl (by decide +kernel) ⟨Nat.le_of_ble_eq_true rfl, Nat.le_of_ble_eq_true rfl⟩) (rc_preV hT hW hK hE hS h0 (by decide) rfl (q := (RX9, TX9, 22)) rfl [.int v3, .int (0 : Int32)]) rfl rfl hl.1 rfl (lv_room (Nat.le_of_ble_eq_true rfl)) dX9_meanNote_20 ⟨Nat.le_of_ble_eq_true rfl, Nat.le_of_ble_eq_true rfl⟩) (fun H locs hW hS => ?_)
        have hm := hm0
        clear hm0 hc_1
        refine lv_iadd hx hb dX9_meanNote_23 ?_
        refine lv_topi (fun v1_2 ev => ?_)
        replace hm := rc_lt_at hm ev
        clear ev
        refine lv_istore_n (lv' := [(1, .int v1_2), (0, .ref a0), (2, .int v2), (3, .int v3)]) hx hb dX9_meanNote_24 rfl hl (by decide) rfl (fun ls hl => ?_)
        refine lv_iload_n hx hb dX9_meanNote_25 rfl (lv_at hl 2 rfl) ?_
        refine lv_aload_n hx hb dX9_meanNote_26 rfl (lv_at hl 1 rfl) ?_
        refine lv_iload_n hx hb dX9_meanNote_27 rfl (lv_at hl 3 rfl) ?_
        refine lv_iconst (v := 1) hx hb dX9_meanNote_28 (by decide) ?_
        obtain ⟨w_3, σ_3, hc_3, hm0⟩ := rc_bd_inv hm
        clear hm
        refine rc_ci hS (va_runV (As := [.int v3, .int (1 : Int32)]) (rest := [.int v2]) ⟨hx, hb, hml, hown, hts⟩ (k_X9_of l hT a0 v3 (1 : Int32) h0 H.size _ _ _ hc_3) (cwV 2 hts (rc_gV tw_7_163 tw_7_165 tw_p_20 tw_1_14 tw_7_166) rfl rfl rfl (by decide +kernel) ⟨Nat.le_of_ble_eq_true rfl, Nat.le_of_ble_eq_true rfl⟩) (rc_preV hT hW hK hE hS h0 (by decide) rfl (q := (RX9, TX9, 22)) rfl [.int v3, .int (1 : Int32)]) rfl rfl hl.1 rfl (lv_room (Nat.le_of_ble_eq_true rfl)) dX9_meanNote_29 ⟨Nat.le_of_ble_eq_true rfl, Nat.le_of_ble_eq_true rfl⟩) (fun H locs hW hS => ?_)
        have hm := hm0
        clear hm0 hc_3
        refine lv_if_le (tgt := 39) hx hb dX9_meanNote_32 (by decide) (fun c_8 => ?_) (fun c_8 => ?_)
        · replace hm := rc_t hm c_8
          refine lv_iconst (v := 0) hx hb dX9_meanNote_39 (by decide) ?_
          refine lv_iadd hx hb dX9_meanNote_40 ?_
          refine lv_topi (fun v2_4 ev => ?_)
          replace hm := rc_lt_at hm ev
          clear ev
          refine lv_istore_n (lv' := [(2, .int v2_4), (1, .int v1_2), (0, .ref a0), (3, .int v3)]) hx hb dX9_meanNote_41 rfl hl (by decide) rfl (fun ls hl => ?_)
          obtain ⟨v3_5, ev⟩ : ∃ y : Int32, y = (v3 + 1) := ⟨_, rfl⟩
          replace hm := rc_lt_at hm ev
          refine lv_iinc (v := v3_5) (lv' := [(3, .int v3_5), (2, .int v2_4), (1, .int v1_2), (0, .ref a0)]) hx hb dX9_meanNote_42 hl (k := 3) rfl (by rw [ev]; rfl) (by decide) rfl (fun ls hl => ?_)
          clear ev
          refine lv_goto (tgt := 6) hx hb dX9_meanNote_45 (by decide) ?_
          exact ih v1_2 v2_4 v3_5 σ_3 _ _ _ hm hW hS (lv_sub hl [3, 2, 1, 0] rfl)
        · replace hm := rc_f hm c_8
          refine lv_iconst (v := 1) hx hb dX9_meanNote_35 (by decide) ?_
          refine lv_goto (tgt := 40) hx hb dX9_meanNote_36 (by decide) ?_
          refine lv_iadd hx hb dX9_meanNote_40 ?_
          refine lv_topi (fun v2_6 ev => ?_)
          replace hm := rc_lt_at hm ev
          clear ev
          refine lv_istore_n (lv' := [(2, .int v2_6), (1, .int v1_2), (0, .ref a0), (3, .int v3)]) hx hb dX9_meanNote_41 rfl hl (by decide) rfl (fun ls hl => ?_)
          obtain ⟨v3_7, ev⟩ : ∃ y : Int32, y = (v3 + 1) := ⟨_, rfl⟩
          replace hm := rc_lt_at hm ev
          refine lv_iinc (v := v3_7) (lv' := [(3, .int v3_7), (2, .int v2_6), (1, .int v1_2), (0, .ref a0)]) hx hb dX9_meanNote_42 hl (k := 3) rfl (by rw [ev]; rfl) (by decide) rfl (fun ls hl => ?_)
          clear ev
          refine lv_goto (tgt := 6) hx hb dX9_meanNote_45 (by decide) ?_
          exact ih v1_2 v2_6 v3_7 σ_3 _ _ _ hm hW hS (lv_sub hl [3, 2, 1, 0] rfl)
  unfold f_X9_meanNote at hm
  refine lv_iconst (v := 0) hx hb dX9_meanNote_0 (by decide) ?_
  refine lv_istore_n (lv' := [(1, .int (0 : Int32)), (0, .ref a0)]) hx hb dX9_meanNote_1 rfl hl (by decide) rfl (fun ls hl => ?_)
  refine lv_iconst (v := 0) hx hb dX9_meanNote_2 (by decide) ?_
  refine lv_istore_n (lv' := [(2, .int (0 : Int32)), (1, .int (0 : Int32)), (0, .ref a0)]) hx hb dX9_meanNote_3 rfl hl (by decide) rfl (fun ls hl => ?_)
  refine lv_iconst (v := 0) hx hb dX9_meanNote_4 (by decide) ?_
  refine lv_istore_n (lv' := [(3, .int (0 : Int32)), (2, .int (0 : Int32)), (1, .int (0 : Int32)), (0, .ref a0)]) hx hb dX9_meanNote_5 rfl hl (by decide) rfl (fun ls hl => ?_)
  refine lp_6 _ (fun v1_10 v2_11 v3_12 σ_13 H locs ls hm hW hS hl => ?_) rc_fu (0 : Int32) (0 : Int32) (0 : Int32) σ _ _ _ hm hW hS (lv_sub hl [3, 2, 1, 0] rfl)
  refine lv_aload_n hx hb dX9_meanNote_48 rfl (lv_at hl 0 rfl) ?_
  refine lv_iload_n hx hb dX9_meanNote_49 rfl (lv_at hl 2 rfl) ?_
  refine lv_if_ne (tgt := 57) hx hb dX9_meanNote_50 (by decide) (fun c_20 => ?_) (fun c_20 => ?_)
  · replace hm := rc_f hm c_20
    refine lv_iconst (v := 0) hx hb dX9_meanNote_57 (by decide) ?_
    refine rp_10_0 hx hb hts hown hK hW hS h0 tw_7_69 dX9_meanNote_58 (fun σ_14 H locs eσ hW hS => ?_)
    replace hm := rc_lt_at hm eσ
    clear eσ
    refine lv_iload_n hx hb dX9_meanNote_61 rfl (lv_at hl 2 rfl) ?_
    refine lv_if_ne (tgt := 69) hx hb dX9_meanNote_62 (by decide) (fun c_16 => ?_) (fun c_16 => ?_)
    · replace hm := rc_f hm c_16
      refine lv_iload_n hx hb dX9_meanNote_69 rfl (lv_at hl 1 rfl) ?_
      refine lv_i2d hx hb dX9_meanNote_70 ?_
      refine lv_iload_n hx hb dX9_meanNote_71 rfl (lv_at hl 2 rfl) ?_
      refine lv_i2d hx hb dX9_meanNote_72 ?_
      have hz_15 : vf_n64 (FP.ddiv (FP.i2d v1_10) (FP.i2d v2_11)) := (rc_dc hm).1
      replace hm := (rc_dc hm).2
      refine lv_ddiv hx hb dX9_meanNote_73 hz_15 ?_
      exact rc_edret hx hb hr hlocks hW hS (Nat.le_of_ble_eq_true rfl) (Nat.le_of_ble_eq_true rfl) hm dX9_meanNote_74
    · replace hm := rc_t hm c_16
      refine lv_dconst0 hx hb dX9_meanNote_65 ?_
      refine lv_goto (tgt := 74) hx hb dX9_meanNote_66 (by decide) ?_
      exact rc_edret hx hb hr hlocks hW hS (Nat.le_of_ble_eq_true rfl) (Nat.le_of_ble_eq_true rfl) hm dX9_meanNote_74
  · replace hm := rc_t hm c_20
    refine lv_iconst (v := 1) hx hb dX9_meanNote_53 (by decide) ?_
    refine lv_goto (tgt := 58) hx hb dX9_meanNote_54 (by decide) ?_
    refine rp_10_0 hx hb hts hown hK hW hS h0 tw_7_69 dX9_meanNote_58 (fun σ_17 H locs eσ hW hS => ?_)
    replace hm := rc_lt_at hm eσ
    clear eσ
    refine lv_iload_n hx hb dX9_meanNote_61 rfl (lv_at hl 2 rfl) ?_
    refine lv_if_ne (tgt := 69) hx hb dX9_meanNote_62 (by decide) (fun c_19 => ?_) (fun c_19 => ?_)
    · replace hm := rc_f hm c_19
      refine lv_iload_n hx hb dX9_meanNote_69 rfl (lv_at hl 1 rfl) ?_
      refine lv_i2d hx hb dX9_meanNote_70 ?_
      refine lv_iload_n hx hb dX9_meanNote_71 rfl (lv_at hl 2 rfl) ?_
      refine lv_i2d hx hb dX9_meanNote_72 ?_
      have hz_18 : vf_n64 (FP.ddiv (FP.i2d v1_10) (FP.i2d v2_11)) := (rc_dc hm).1
      replace hm := (rc_dc hm).2
      refine lv_ddiv hx hb dX9_meanNote_73 hz_18 ?_
      exact rc_edret hx hb hr hlocks hW hS (Nat.le_of_ble_eq_true rfl) (Nat.le_of_ble_eq_true rfl) hm dX9_meanNote_74
    · replace hm := rc_t hm c_19
      refine lv_dconst0 hx hb dX9_meanNote_65 ?_
      refine lv_goto (tgt := 74) hx hb dX9_meanNote_66 (by decide) ?_
      exact rc_edret hx hb hr hlocks hW hS (Nat.le_of_ble_eq_true rfl) (Nat.le_of_ble_eq_true rfl) hm dX9_meanNote_74
set_option maxHeartbeats 4000000 in
set_option maxRecDepth 100000 in
theorem k_X9_hailShare (l : Launch) {Y : rc_Y} {sh : Nat → Nat} {rf : rc_F} (hT : rc_T Y sh rf) (a0 : Nat) (h0 : sh a0 = 10) (sz : Nat) (σ σ' : rc_S) (r : UInt32) (hm : f_X9_hailShare rf a0 σ = some (r, σ')) : Met l yX9_hailShare (Cond.code yX9_hailShare cX9_hailShare 3 (some .float) :: rc_big) ({ frames := 2, cells := 0, slots := 0, locals := 44 } : Room) (rc_P Y sh rf σ sz [.ref a0]) (va_Qf (fun (r' : UInt32) (_ : Unit) => r' = r) (fun _ t => rc_W Y sh rf σ' t.heap) (rc_A sh sz)) 0 0 (rc_A sh sz) := by
  refine Met.ofW (cc := cX9_hailShare) (maxL := 3) (ret := (some .float)) (by decide +kernel) rfl ?_
  intro p e s m args below meth c s₁ B hml hv
  obtain ⟨rfl, hsz, hW, hK, hE⟩ := hv
  have hx := B.exec
  have hb := B.bytes
  have hr := B.returns
  have hts : ∀ w ∈ rc_big, w.before _ s = true := fun w h => atoms_spec (ws := Cond.code yX9_hailShare cX9_hailShare 3 (some .float) :: rc_big) B.pre w (List.mem_cons_of_mem _ h)
  have hown : s.vm.findClass RX9 = some m.cls := findClass_of_methodNamed B.named
  have hlocks := B.notSynchronized
  clear B
  subst hsz
  have hS : va_S (rc_A sh s.heap.size) s.heap s.heap [] := va_S.rf
  have hl := lv_entry ([.ref a0]) (n := 3) (Nat.le_of_ble_eq_true rfl)
  rw [lg_entry_eq]
  generalize (lg_sl ([.ref a0]) ++ List.replicate (3 - (lg_sl ([.ref a0])).length) Slot.unset).toArray = ls at hl ⊢
  have hl : lv_has ls 3 [(0, .ref a0)] := hl
  have lp_4 : ∀ (K : Int32 → Int32 → rc_S → Option (UInt32 × rc_S)) (hKK : ∀ (v1 v2 : Int32) (σ : rc_S) (H : Heap) (locs : List Loc) (ls : Array Slot), K v1 v2 σ = some (r, σ') → rc_W Y sh rf σ H → va_S (rc_A sh s.heap.size) s.heap H locs → lv_has ls 3 [(0, .ref a0), (1, .int v1)] → W p l e (headSpec (Cond.code yX9_hailShare cX9_hailShare 3 (some .float) :: rc_big) ({ frames := 2, cells := 0, slots := 0, locals := 44 } : Room)).room s m (([.ref a0] : List Value).toArray) below meth c H locs 0 0 (MQ below (va_Qf (fun (r' : UInt32) (_ : Unit) => r' = r) (fun _ t => rc_W Y sh rf σ' t.heap) (rc_A sh s.heap.size)) ([.ref a0] : List Value).toArray s 0 0 (rc_A sh s.heap.size)) (F0 m 29 ls [])) (n : Nat) (v1 v2 : Int32) (σ : rc_S) (H : Heap) (locs : List Loc) (ls : Array Slot), f_X9_hailShare_4 rf a0 K n v1 v2 σ = some (r, σ') → rc_W Y sh rf σ H → va_S (rc_A sh s.heap.size) s.heap H locs → lv_has ls 3 [(0, .ref a0), (1, .int v1), (2, .int v2)] → W p l e (headSpec (Cond.code yX9_hailShare cX9_hailShare 3 (some .float) :: rc_big) ({ frames := 2, cells := 0, slots := 0, locals := 44 } : Room)).room s m (([.ref a0] : List Value).toArray) below meth c H locs 0 0 (MQ below (va_Qf (fun (r' : UInt32) (_ : Unit) => r' = r) (fun _ t => rc_W Y sh rf σ' t.heap) (rc_A sh s.heap.size)) ([.ref a0] : List Value).toArray s 0 0 (rc_A sh s.heap.size)) (F0 m 4 ls []) := by
    intro  K hKK n
    induction n with
    | zero =>
      intro v1 v2 σ H locs ls hm
      rw [f_X9_hailShare_4] at hm
      cases hm
    | succ n ih =>
      intro v1 v2 σ H locs ls hm hW hS hl
      rw [f_X9_hailShare_4] at hm
      refine lv_iload_n hx hb dX9_hailShare_4 rfl (lv_at hl 2 rfl) ?_
      refine lv_aload_n hx hb dX9_hailShare_5 rfl (lv_at hl 0 rfl) ?_
      refine rg_10_1 hx hb hts hown hK hW h0 tw_7_70 dX9_hailShare_6 ?_
      refine lv_iconst (v := 0) hx hb dX9_hailShare_9 (by decide) ?_
      refine rc_ialdj (j := 0) hx hb hK hW (rc_t_10_1 hT h0) (by decide) rfl (rc_inD (by decide)) (by decide) dX9_hailShare_10 ?_
      refine lv_icmp_ge (tgt := 29) hx hb dX9_hailShare_11 (by decide) (fun c_4 => ?_) (fun c_4 => ?_)
      · replace hm := rc_t hm c_4
        exact hKK v1 v2 σ _ _ _ hm hW hS (lv_sub hl [0, 1] rfl)
      · replace hm := rc_f hm c_4
        refine lv_iload_n hx hb dX9_hailShare_14 rfl (lv_at hl 1 rfl) ?_
        refine lv_aload_n hx hb dX9_hailShare_15 rfl (lv_at hl 0 rfl) ?_
        refine lv_iload_n hx hb dX9_hailShare_16 rfl (lv_at hl 2 rfl) ?_
        refine lv_iconst (v := 2) hx hb dX9_hailShare_17 (by decide) ?_
        obtain ⟨w_1, σ_1, hc_1, hm0⟩ := rc_bd_inv hm
        clear hm
        refine rc_ci hS (va_runV (As := [.int v2, .int (2 : Int32)]) (rest := [.int v1]) ⟨hx, hb, hml, hown, hts⟩ (k_X9_of l hT a0 v2 (2 : Int32) h0 H.size _ _ _ hc_1) (cwV 2 hts (rc_gV tw_7_163 tw_7_165 tw_p_20 tw_1_14 tw_7_166) rfl rfl rfl (by decide +kernel) ⟨Nat.le_of_ble_eq_true rfl, Nat.le_of_ble_eq_true rfl⟩) (rc_preV hT hW hK hE hS h0 (by decide) rfl (q := (RX9, TX9, 22)) rfl [.int v2, .int (2 : Int32)]) rfl rfl hl.1 rfl (lv_room (Nat.le_of_ble_eq_true rfl)) dX9_hailShare_18 ⟨Nat.le_of_ble_eq_true rfl, Nat.le_of_ble_eq_true rfl⟩) (fun H locs hW hS => ?_)
        have hm := hm0
        clear hm0 hc_1
        refine lv_iadd hx hb dX9_hailShare_21 ?_
        refine lv_topi (fun v1_2 ev => ?_)
        replace hm := rc_lt_at hm ev
        clear ev
        refine lv_istore_n (lv' := [(1, .int v1_2), (0, .ref a0), (2, .int v2)]) hx hb dX9_hailShare_22 rfl hl (by decide) rfl (fun ls hl => ?_)
        obtain ⟨v2_3, ev⟩ : ∃ y : Int32, y = (v2 + 1) := ⟨_, rfl⟩
        replace hm := rc_lt_at hm ev
        refine lv_iinc (v := v2_3) (lv' := [(2, .int v2_3), (1, .int v1_2), (0, .ref a0)]) hx hb dX9_hailShare_23 hl (k := 2) rfl (by rw [ev]; rfl) (by decide) rfl (fun ls hl => ?_)
        clear ev
        refine lv_goto (tgt := 4) hx hb dX9_hailShare_26 (by decide) ?_
        exact ih v1_2 v2_3 σ_1 _ _ _ hm hW hS (lv_sub hl [2, 1, 0] rfl)
  unfold f_X9_hailShare at hm
  refine lv_iconst (v := 0) hx hb dX9_hailShare_0 (by decide) ?_
  refine lv_istore_n (lv' := [(1, .int (0 : Int32)), (0, .ref a0)]) hx hb dX9_hailShare_1 rfl hl (by decide) rfl (fun ls hl => ?_)
  refine lv_iconst (v := 0) hx hb dX9_hailShare_2 (by decide) ?_
  refine lv_istore_n (lv' := [(2, .int (0 : Int32)), (1, .int (0 : Int32)), (0, .ref a0)]) hx hb dX9_hailShare_3 rfl hl (by decide) rfl (fun ls hl => ?_)
  refine lp_4 _ (fun v1_5 v2_6 σ_7 H locs ls hm hW hS hl => ?_) rc_fu (0 : Int32) (0 : Int32) σ _ _ _ hm hW hS (lv_sub hl [2, 1, 0] rfl)
  refine lv_aload_n hx hb dX9_hailShare_29 rfl (lv_at hl 0 rfl) ?_
  refine lv_aload_n hx hb dX9_hailShare_30 rfl (lv_at hl 0 rfl) ?_
  obtain ⟨w_8, σ_8, hc_8, hm0⟩ := rc_bd_inv hm
  clear hm
  refine rc_ci hS (va_runV (As := []) (rest := [.ref a0]) ⟨hx, hb, hml, hown, hts⟩ (k_X9_allLitres l hT a0 h0 H.size _ _ _ hc_8) (cwV 0 hts (rc_gV tw_8_145 tw_8_147 tw_p_49 tw_1_14 tw_8_148) rfl rfl rfl (by decide +kernel) ⟨Nat.le_of_ble_eq_true rfl, Nat.le_of_ble_eq_true rfl⟩) (rc_preV hT hW hK hE hS h0 (by decide) rfl (q := (RX9, TX9, 22)) rfl []) rfl rfl hl.1 rfl (lv_room (Nat.le_of_ble_eq_true rfl)) dX9_hailShare_31 ⟨Nat.le_of_ble_eq_true rfl, Nat.le_of_ble_eq_true rfl⟩) (fun H locs hW hS => ?_)
  have hm := hm0
  clear hm0 hc_8
  refine lv_if_ne (tgt := 41) hx hb dX9_hailShare_34 (by decide) (fun c_17 => ?_) (fun c_17 => ?_)
  · replace hm := rc_f hm c_17
    refine lv_iconst (v := 0) hx hb dX9_hailShare_41 (by decide) ?_
    refine rp_10_0 hx hb hts hown hK hW hS h0 tw_7_69 dX9_hailShare_42 (fun σ_9 H locs eσ hW hS => ?_)
    replace hm := rc_lt_at hm eσ
    clear eσ
    refine lv_aload_n hx hb dX9_hailShare_45 rfl (lv_at hl 0 rfl) ?_
    refine rg_10_0 hx hb hts hown hK hW h0 tw_7_69 dX9_hailShare_46 ?_
    refine lv_if_le (tgt := 56) hx hb dX9_hailShare_49 (by decide) (fun c_12 => ?_) (fun c_12 => ?_)
    · replace hm := rc_t hm c_12
      refine lv_iload_n hx hb dX9_hailShare_56 rfl (lv_at hl 1 rfl) ?_
      refine lv_i2f hx hb dX9_hailShare_57 ?_
      refine lv_aload_n hx hb dX9_hailShare_58 rfl (lv_at hl 0 rfl) ?_
      obtain ⟨w_10, σ_10, hc_10, hm0⟩ := rc_bd_inv hm
      clear hm
      refine rc_ci hS (va_runV (As := []) (rest := [.float (FP.i2f v1_5)]) ⟨hx, hb, hml, hown, hts⟩ (k_X9_allLitres l hT a0 h0 H.size _ _ _ hc_10) (cwV 0 hts (rc_gV tw_8_145 tw_8_147 tw_p_49 tw_1_14 tw_8_148) rfl rfl rfl (by decide +kernel) ⟨Nat.le_of_ble_eq_true rfl, Nat.le_of_ble_eq_true rfl⟩) (rc_preV hT hW hK hE hS h0 (by decide) rfl (q := (RX9, TX9, 22)) rfl []) rfl rfl hl.1 rfl (lv_room (Nat.le_of_ble_eq_true rfl)) dX9_hailShare_59 ⟨Nat.le_of_ble_eq_true rfl, Nat.le_of_ble_eq_true rfl⟩) (fun H locs hW hS => ?_)
      have hm := hm0
      clear hm0 hc_10
      refine lv_i2f hx hb dX9_hailShare_62 ?_
      have hz_11 : vf_n32 (FP.fdiv (FP.i2f v1_5) (FP.i2f w_10)) := (rc_dc hm).1
      replace hm := (rc_dc hm).2
      refine lv_fdiv hx hb dX9_hailShare_63 hz_11 ?_
      exact rc_efret hx hb hr hlocks hW hS (Nat.le_of_ble_eq_true rfl) (Nat.le_of_ble_eq_true rfl) hm dX9_hailShare_64
    · replace hm := rc_f hm c_12
      refine lv_fconst0 hx hb dX9_hailShare_52 ?_
      refine lv_goto (tgt := 64) hx hb dX9_hailShare_53 (by decide) ?_
      exact rc_efret hx hb hr hlocks hW hS (Nat.le_of_ble_eq_true rfl) (Nat.le_of_ble_eq_true rfl) hm dX9_hailShare_64
  · replace hm := rc_t hm c_17
    refine lv_iconst (v := 1) hx hb dX9_hailShare_37 (by decide) ?_
    refine lv_goto (tgt := 42) hx hb dX9_hailShare_38 (by decide) ?_
    refine rp_10_0 hx hb hts hown hK hW hS h0 tw_7_69 dX9_hailShare_42 (fun σ_13 H locs eσ hW hS => ?_)
    replace hm := rc_lt_at hm eσ
    clear eσ
    refine lv_aload_n hx hb dX9_hailShare_45 rfl (lv_at hl 0 rfl) ?_
    refine rg_10_0 hx hb hts hown hK hW h0 tw_7_69 dX9_hailShare_46 ?_
    refine lv_if_le (tgt := 56) hx hb dX9_hailShare_49 (by decide) (fun c_16 => ?_) (fun c_16 => ?_)
    · replace hm := rc_t hm c_16
      refine lv_iload_n hx hb dX9_hailShare_56 rfl (lv_at hl 1 rfl) ?_
      refine lv_i2f hx hb dX9_hailShare_57 ?_
      refine lv_aload_n hx hb dX9_hailShare_58 rfl (lv_at hl 0 rfl) ?_
      obtain ⟨w_14, σ_14, hc_14, hm0⟩ := rc_bd_inv hm
      clear hm
      refine rc_ci hS (va_runV (As := []) (rest := [.float (FP.i2f v1_5)]) ⟨hx, hb, hml, hown, hts⟩ (k_X9_allLitres l hT a0 h0 H.size _ _ _ hc_14) (cwV 0 hts (rc_gV tw_8_145 tw_8_147 tw_p_49 tw_1_14 tw_8_148) rfl rfl rfl (by decide +kernel) ⟨Nat.le_of_ble_eq_true rfl, Nat.le_of_ble_eq_true rfl⟩) (rc_preV hT hW hK hE hS h0 (by decide) rfl (q := (RX9, TX9, 22)) rfl []) rfl rfl hl.1 rfl (lv_room (Nat.le_of_ble_eq_true rfl)) dX9_hailShare_59 ⟨Nat.le_of_ble_eq_true rfl, Nat.le_of_ble_eq_true rfl⟩) (fun H locs hW hS => ?_)
      have hm := hm0
      clear hm0 hc_14
      refine lv_i2f hx hb dX9_hailShare_62 ?_
      have hz_15 : vf_n32 (FP.fdiv (FP.i2f v1_5) (FP.i2f w_14)) := (rc_dc hm).1
      replace hm := (rc_dc hm).2
      refine lv_fdiv hx hb dX9_hailShare_63 hz_15 ?_
      exact rc_efret hx hb hr hlocks hW hS (Nat.le_of_ble_eq_true rfl) (Nat.le_of_ble_eq_true rfl) hm dX9_hailShare_64
    · replace hm := rc_f hm c_16
      refine lv_fconst0 hx hb dX9_hailShare_52 ?_
      refine lv_goto (tgt := 64) hx hb dX9_hailShare_53 (by decide) ?_
      exact rc_efret hx hb hr hlocks hW hS (Nat.le_of_ble_eq_true rfl) (Nat.le_of_ble_eq_true rfl) hm dX9_hailShare_64
set_option maxHeartbeats 4000000 in
set_option maxRecDepth 100000 in
theorem k_X9_account (l : Launch) {Y : rc_Y} {sh : Nat → Nat} {rf : rc_F} (hT : rc_T Y sh rf) (a0 : Nat) (u1 : Int32) (h0 : sh a0 = 10) (sz : Nat) (σ σ' : rc_S) (r : Int32) (hm : f_X9_account rf a0 u1 σ = some (r, σ')) : Met l yX9_account (Cond.code yX9_account cX9_account 2 (some .int) :: rc_big) ({ frames := 2, cells := 0, slots := 0, locals := 44 } : Room) (rc_P Y sh rf σ sz [.ref a0, .int u1]) (va_Qi (fun (r' : Int32) (_ : Unit) => r' = r) (fun _ t => rc_W Y sh rf σ' t.heap) (rc_A sh sz)) 0 0 (rc_A sh sz) := by
  refine Met.ofW (cc := cX9_account) (maxL := 2) (ret := (some .int)) (by decide +kernel) rfl ?_
  intro p e s m args below meth c s₁ B hml hv
  obtain ⟨rfl, hsz, hW, hK, hE⟩ := hv
  have hx := B.exec
  have hb := B.bytes
  have hr := B.returns
  have hts : ∀ w ∈ rc_big, w.before _ s = true := fun w h => atoms_spec (ws := Cond.code yX9_account cX9_account 2 (some .int) :: rc_big) B.pre w (List.mem_cons_of_mem _ h)
  have hown : s.vm.findClass RX9 = some m.cls := findClass_of_methodNamed B.named
  have hlocks := B.notSynchronized
  clear B
  subst hsz
  have hS : va_S (rc_A sh s.heap.size) s.heap s.heap [] := va_S.rf
  have hl := lv_entry ([.ref a0, .int u1]) (n := 2) (Nat.le_of_ble_eq_true rfl)
  rw [lg_entry_eq]
  generalize (lg_sl ([.ref a0, .int u1]) ++ List.replicate (2 - (lg_sl ([.ref a0, .int u1])).length) Slot.unset).toArray = ls at hl ⊢
  have hl : lv_has ls 2 [(0, .ref a0), (1, .int u1)] := hl
  unfold f_X9_account at hm
  refine lv_aload_n hx hb dX9_account_0 rfl (lv_at hl 0 rfl) ?_
  refine lv_iconst (v := 0) hx hb dX9_account_1 (by decide) ?_
  refine rp_10_0 hx hb hts hown hK hW hS h0 tw_7_69 dX9_account_2 (fun σ_1 H locs eσ hW hS => ?_)
  replace hm := rc_lt_at hm eσ
  clear eσ
  refine lv_iload_n hx hb dX9_account_5 rfl (lv_at hl 1 rfl) ?_
  by_cases c_2 : u1 = (0 : Int32)
  · replace hm := rc_t hm c_2
    refine lv_tableIn (off := 62) (tgt := 68) hx hb dX9_account_6 (by rw [c_2]; decide) (by rw [c_2]; decide) (by rw [c_2]; decide) (by decide) ?_
    refine lv_aload_n hx hb dX9_account_68 rfl (lv_at hl 0 rfl) ?_
    refine rg_10_1 hx hb hts hown hK hW h0 tw_7_70 dX9_account_69 ?_
    refine lv_iconst (v := 0) hx hb dX9_account_72 (by decide) ?_
    refine rc_ialdj (j := 0) hx hb hK hW (rc_t_10_1 hT h0) (by decide) rfl (rc_inD (by decide)) (by decide) dX9_account_73 ?_
    exact rc_eiret hx hb hr hlocks hW hS (Nat.le_of_ble_eq_true rfl) (Nat.le_of_ble_eq_true rfl) hm dX9_account_74
  · replace hm := rc_f hm c_2
    by_cases c_3 : u1 = (1 : Int32)
    · replace hm := rc_t hm c_3
      refine lv_tableIn (off := 69) (tgt := 75) hx hb dX9_account_6 (by rw [c_3]; decide) (by rw [c_3]; decide) (by rw [c_3]; decide) (by decide) ?_
      refine lv_aload_n hx hb dX9_account_75 rfl (lv_at hl 0 rfl) ?_
      obtain ⟨w_4, σ_4, hc_4, hm0⟩ := rc_bd_inv hm
      clear hm
      refine rc_ci hS (va_runV (As := []) (rest := []) ⟨hx, hb, hml, hown, hts⟩ (k_X9_allLitres l hT a0 h0 H.size _ _ _ hc_4) (cwV 0 hts (rc_gV tw_8_145 tw_8_147 tw_p_49 tw_1_14 tw_8_148) rfl rfl rfl (by decide +kernel) ⟨Nat.le_of_ble_eq_true rfl, Nat.le_of_ble_eq_true rfl⟩) (rc_preV hT hW hK hE hS h0 (by decide) rfl (q := (RX9, TX9, 22)) rfl []) rfl rfl hl.1 rfl (lv_room (Nat.le_of_ble_eq_true rfl)) dX9_account_76 ⟨Nat.le_of_ble_eq_true rfl, Nat.le_of_ble_eq_true rfl⟩) (fun H locs hW hS => ?_)
      have hm := hm0
      clear hm0 hc_4
      exact rc_eiret hx hb hr hlocks hW hS (Nat.le_of_ble_eq_true rfl) (Nat.le_of_ble_eq_true rfl) hm dX9_account_79
    · replace hm := rc_f hm c_3
      by_cases c_5 : u1 = (2 : Int32)
      · replace hm := rc_t hm c_5
        refine lv_tableIn (off := 74) (tgt := 80) hx hb dX9_account_6 (by rw [c_5]; decide) (by rw [c_5]; decide) (by rw [c_5]; decide) (by decide) ?_
        refine lv_aload_n hx hb dX9_account_80 rfl (lv_at hl 0 rfl) ?_
        refine rg_10_1 hx hb hts hown hK hW h0 tw_7_70 dX9_account_81 ?_
        refine lv_iconst (v := 2) hx hb dX9_account_84 (by decide) ?_
        refine rc_ialdj (j := 2) hx hb hK hW (rc_t_10_1 hT h0) (by decide) rfl (rc_inD (by decide)) (by decide) dX9_account_85 ?_
        exact rc_eiret hx hb hr hlocks hW hS (Nat.le_of_ble_eq_true rfl) (Nat.le_of_ble_eq_true rfl) hm dX9_account_86
      · replace hm := rc_f hm c_5
        by_cases c_6 : u1 = (3 : Int32)
        · replace hm := rc_t hm c_6
          refine lv_tableIn (off := 81) (tgt := 87) hx hb dX9_account_6 (by rw [c_6]; decide) (by rw [c_6]; decide) (by rw [c_6]; decide) (by decide) ?_
          refine lv_aload_n hx hb dX9_account_87 rfl (lv_at hl 0 rfl) ?_
          refine rg_10_1 hx hb hts hown hK hW h0 tw_7_70 dX9_account_88 ?_
          refine lv_iconst (v := 1) hx hb dX9_account_91 (by decide) ?_
          refine rc_ialdj (j := 1) hx hb hK hW (rc_t_10_1 hT h0) (by decide) rfl (rc_inD (by decide)) (by decide) dX9_account_92 ?_
          exact rc_eiret hx hb hr hlocks hW hS (Nat.le_of_ble_eq_true rfl) (Nat.le_of_ble_eq_true rfl) hm dX9_account_93
        · replace hm := rc_f hm c_6
          by_cases c_7 : u1 = (4 : Int32)
          · replace hm := rc_t hm c_7
            refine lv_tableIn (off := 88) (tgt := 94) hx hb dX9_account_6 (by rw [c_7]; decide) (by rw [c_7]; decide) (by rw [c_7]; decide) (by decide) ?_
            refine lv_aload_n hx hb dX9_account_94 rfl (lv_at hl 0 rfl) ?_
            refine rg_10_1 hx hb hts hown hK hW h0 tw_7_70 dX9_account_95 ?_
            refine lv_iconst (v := 3) hx hb dX9_account_98 (by decide) ?_
            refine rc_ialdj (j := 3) hx hb hK hW (rc_t_10_1 hT h0) (by decide) rfl (rc_inD (by decide)) (by decide) dX9_account_99 ?_
            exact rc_eiret hx hb hr hlocks hW hS (Nat.le_of_ble_eq_true rfl) (Nat.le_of_ble_eq_true rfl) hm dX9_account_100
          · replace hm := rc_f hm c_7
            by_cases c_8 : u1 = (5 : Int32)
            · replace hm := rc_t hm c_8
              refine lv_tableIn (off := 95) (tgt := 101) hx hb dX9_account_6 (by rw [c_8]; decide) (by rw [c_8]; decide) (by rw [c_8]; decide) (by decide) ?_
              refine lv_aload_n hx hb dX9_account_101 rfl (lv_at hl 0 rfl) ?_
              refine rg_10_1 hx hb hts hown hK hW h0 tw_7_70 dX9_account_102 ?_
              refine lv_iconst (v := 4) hx hb dX9_account_105 (by decide) ?_
              refine rc_ialdj (j := 4) hx hb hK hW (rc_t_10_1 hT h0) (by decide) rfl (rc_inD (by decide)) (by decide) dX9_account_106 ?_
              exact rc_eiret hx hb hr hlocks hW hS (Nat.le_of_ble_eq_true rfl) (Nat.le_of_ble_eq_true rfl) hm dX9_account_107
            · replace hm := rc_f hm c_8
              by_cases c_9 : u1 = (6 : Int32)
              · replace hm := rc_t hm c_9
                refine lv_tableIn (off := 102) (tgt := 108) hx hb dX9_account_6 (by rw [c_9]; decide) (by rw [c_9]; decide) (by rw [c_9]; decide) (by decide) ?_
                refine lv_aload_n hx hb dX9_account_108 rfl (lv_at hl 0 rfl) ?_
                refine rg_10_1 hx hb hts hown hK hW h0 tw_7_70 dX9_account_109 ?_
                refine lv_bipush (v := 7) hx hb dX9_account_112 (by decide) ?_
                refine rc_ialdj (j := 7) hx hb hK hW (rc_t_10_1 hT h0) (by decide) rfl (rc_inD (by decide)) (by decide) dX9_account_114 ?_
                exact rc_eiret hx hb hr hlocks hW hS (Nat.le_of_ble_eq_true rfl) (Nat.le_of_ble_eq_true rfl) hm dX9_account_115
              · replace hm := rc_f hm c_9
                by_cases c_10 : u1 = (7 : Int32)
                · replace hm := rc_t hm c_10
                  refine lv_tableIn (off := 110) (tgt := 116) hx hb dX9_account_6 (by rw [c_10]; decide) (by rw [c_10]; decide) (by rw [c_10]; decide) (by decide) ?_
                  refine lv_aload_n hx hb dX9_account_116 rfl (lv_at hl 0 rfl) ?_
                  refine rg_10_1 hx hb hts hown hK hW h0 tw_7_70 dX9_account_117 ?_
                  refine lv_bipush (v := 8) hx hb dX9_account_120 (by decide) ?_
                  refine rc_ialdj (j := 8) hx hb hK hW (rc_t_10_1 hT h0) (by decide) rfl (rc_inD (by decide)) (by decide) dX9_account_122 ?_
                  exact rc_eiret hx hb hr hlocks hW hS (Nat.le_of_ble_eq_true rfl) (Nat.le_of_ble_eq_true rfl) hm dX9_account_123
                · replace hm := rc_f hm c_10
                  by_cases c_11 : u1 = (8 : Int32)
                  · replace hm := rc_t hm c_11
                    refine lv_tableIn (off := 118) (tgt := 124) hx hb dX9_account_6 (by rw [c_11]; decide) (by rw [c_11]; decide) (by rw [c_11]; decide) (by decide) ?_
                    refine lv_aload_n hx hb dX9_account_124 rfl (lv_at hl 0 rfl) ?_
                    refine rg_10_1 hx hb hts hown hK hW h0 tw_7_70 dX9_account_125 ?_
                    refine lv_bipush (v := 9) hx hb dX9_account_128 (by decide) ?_
                    refine rc_ialdj (j := 9) hx hb hK hW (rc_t_10_1 hT h0) (by decide) rfl (rc_inD (by decide)) (by decide) dX9_account_130 ?_
                    exact rc_eiret hx hb hr hlocks hW hS (Nat.le_of_ble_eq_true rfl) (Nat.le_of_ble_eq_true rfl) hm dX9_account_131
                  · replace hm := rc_f hm c_11
                    by_cases c_12 : u1 = (9 : Int32)
                    · replace hm := rc_t hm c_12
                      refine lv_tableIn (off := 126) (tgt := 132) hx hb dX9_account_6 (by rw [c_12]; decide) (by rw [c_12]; decide) (by rw [c_12]; decide) (by decide) ?_
                      refine lv_aload_n hx hb dX9_account_132 rfl (lv_at hl 0 rfl) ?_
                      refine rg_10_1 hx hb hts hown hK hW h0 tw_7_70 dX9_account_133 ?_
                      refine lv_bipush (v := 10) hx hb dX9_account_136 (by decide) ?_
                      refine rc_ialdj (j := 10) hx hb hK hW (rc_t_10_1 hT h0) (by decide) rfl (rc_inD (by decide)) (by decide) dX9_account_138 ?_
                      exact rc_eiret hx hb hr hlocks hW hS (Nat.le_of_ble_eq_true rfl) (Nat.le_of_ble_eq_true rfl) hm dX9_account_139
                    · replace hm := rc_f hm c_12
                      by_cases c_13 : u1 = (10 : Int32)
                      · replace hm := rc_t hm c_13
                        refine lv_tableIn (off := 134) (tgt := 140) hx hb dX9_account_6 (by rw [c_13]; decide) (by rw [c_13]; decide) (by rw [c_13]; decide) (by decide) ?_
                        refine lv_aload_n hx hb dX9_account_140 rfl (lv_at hl 0 rfl) ?_
                        refine rg_10_5 hx hb hts hown hK hW h0 tw_7_74 dX9_account_141 ?_
                        exact rc_eiret hx hb hr hlocks hW hS (Nat.le_of_ble_eq_true rfl) (Nat.le_of_ble_eq_true rfl) hm dX9_account_144
                      · replace hm := rc_f hm c_13
                        by_cases c_14 : u1 = (11 : Int32)
                        · replace hm := rc_t hm c_14
                          refine lv_tableIn (off := 139) (tgt := 145) hx hb dX9_account_6 (by rw [c_14]; decide) (by rw [c_14]; decide) (by rw [c_14]; decide) (by decide) ?_
                          refine lv_aload_n hx hb dX9_account_145 rfl (lv_at hl 0 rfl) ?_
                          refine rg_10_10 hx hb hts hown hK hW h0 tw_7_79 dX9_account_146 ?_
                          exact rc_eiret hx hb hr hlocks hW hS (Nat.le_of_ble_eq_true rfl) (Nat.le_of_ble_eq_true rfl) hm dX9_account_149
                        · replace hm := rc_f hm c_14
                          refine rc_tblD (tgt := 150) hx hb dX9_account_6 [0, 1, 2, 3, 4, 5, 6, 7, 8, 9, 10, 11] (by decide +kernel) (by decide +kernel) (rc_nk c_2 (by decide) (rc_nk c_3 (by decide) (rc_nk c_5 (by decide) (rc_nk c_6 (by decide) (rc_nk c_7 (by decide) (rc_nk c_8 (by decide) (rc_nk c_9 (by decide) (rc_nk c_10 (by decide) (rc_nk c_11 (by decide) (rc_nk c_12 (by decide) (rc_nk c_13 (by decide) (rc_nk c_14 (by decide) rc_nk0)))))))))))) (by decide) ?_
                          refine lv_aload_n hx hb dX9_account_150 rfl (lv_at hl 0 rfl) ?_
                          refine lv_iconst (v := 1) hx hb dX9_account_151 (by decide) ?_
                          obtain ⟨w_15, σ_15, hc_15, hm0⟩ := rc_bd_inv hm
                          clear hm
                          refine rc_ci hS (va_runV (As := [.int (1 : Int32)]) (rest := []) ⟨hx, hb, hml, hown, hts⟩ (k_X9_fails l hT a0 (1 : Int32) h0 H.size _ _ _ hc_15) (cwV 1 hts (rc_gV tw_7_187 tw_7_189 tw_p_26 tw_1_14 tw_7_190) rfl rfl rfl (by decide +kernel) ⟨Nat.le_of_ble_eq_true rfl, Nat.le_of_ble_eq_true rfl⟩) (rc_preV hT hW hK hE hS h0 (by decide) rfl (q := (RX9, TX9, 22)) rfl [.int (1 : Int32)]) rfl rfl hl.1 rfl (lv_room (Nat.le_of_ble_eq_true rfl)) dX9_account_152 ⟨Nat.le_of_ble_eq_true rfl, Nat.le_of_ble_eq_true rfl⟩) (fun H locs hW hS => ?_)
                          have hm := hm0
                          clear hm0 hc_15
                          exact rc_eiret hx hb hr hlocks hW hS (Nat.le_of_ble_eq_true rfl) (Nat.le_of_ble_eq_true rfl) hm dX9_account_155
set_option maxHeartbeats 4000000 in
set_option maxRecDepth 100000 in
theorem k_X9_undo (l : Launch) {Y : rc_Y} {sh : Nat → Nat} {rf : rc_F} (hT : rc_T Y sh rf) (a0 : Nat) (h0 : sh a0 = 10) (sz : Nat) (σ σ' : rc_S) (r : Int32) (hm : f_X9_undo rf a0 σ = some (r, σ')) : Met l yX9_undo (Cond.code yX9_undo cX9_undo 2 (some .int) :: rc_big) ({ frames := 1, cells := 0, slots := 0, locals := 21 } : Room) (rc_P Y sh rf σ sz [.ref a0]) (va_Qi (fun (r' : Int32) (_ : Unit) => r' = r) (fun _ t => rc_W Y sh rf σ' t.heap) (rc_A sh sz)) 0 0 (rc_A sh sz) := by
  refine Met.ofW (cc := cX9_undo) (maxL := 2) (ret := (some .int)) (by decide +kernel) rfl ?_
  intro p e s m args below meth c s₁ B hml hv
  obtain ⟨rfl, hsz, hW, hK, hE⟩ := hv
  have hx := B.exec
  have hb := B.bytes
  have hr := B.returns
  have hts : ∀ w ∈ rc_big, w.before _ s = true := fun w h => atoms_spec (ws := Cond.code yX9_undo cX9_undo 2 (some .int) :: rc_big) B.pre w (List.mem_cons_of_mem _ h)
  have hown : s.vm.findClass RX9 = some m.cls := findClass_of_methodNamed B.named
  have hlocks := B.notSynchronized
  clear B
  subst hsz
  have hS : va_S (rc_A sh s.heap.size) s.heap s.heap [] := va_S.rf
  have hl := lv_entry ([.ref a0]) (n := 2) (Nat.le_of_ble_eq_true rfl)
  rw [lg_entry_eq]
  generalize (lg_sl ([.ref a0]) ++ List.replicate (2 - (lg_sl ([.ref a0])).length) Slot.unset).toArray = ls at hl ⊢
  have hl : lv_has ls 2 [(0, .ref a0)] := hl
  have lp_30 : ∀ (K : Int32 → rc_S → Option (Int32 × rc_S)) (hKK : ∀ (v1 : Int32) (σ : rc_S) (H : Heap) (locs : List Loc) (ls : Array Slot), K v1 σ = some (r, σ') → rc_W Y sh rf σ H → va_S (rc_A sh s.heap.size) s.heap H locs → lv_has ls 2 [(0, .ref a0)] → W p l e (headSpec (Cond.code yX9_undo cX9_undo 2 (some .int) :: rc_big) ({ frames := 1, cells := 0, slots := 0, locals := 21 } : Room)).room s m (([.ref a0] : List Value).toArray) below meth c H locs 0 0 (MQ below (va_Qi (fun (r' : Int32) (_ : Unit) => r' = r) (fun _ t => rc_W Y sh rf σ' t.heap) (rc_A sh s.heap.size)) ([.ref a0] : List Value).toArray s 0 0 (rc_A sh s.heap.size)) (F0 m 62 ls [])) (n : Nat) (v1 : Int32) (σ : rc_S) (H : Heap) (locs : List Loc) (ls : Array Slot), f_X9_undo_30 rf a0 K n v1 σ = some (r, σ') → rc_W Y sh rf σ H → va_S (rc_A sh s.heap.size) s.heap H locs → lv_has ls 2 [(0, .ref a0), (1, .int v1)] → W p l e (headSpec (Cond.code yX9_undo cX9_undo 2 (some .int) :: rc_big) ({ frames := 1, cells := 0, slots := 0, locals := 21 } : Room)).room s m (([.ref a0] : List Value).toArray) below meth c H locs 0 0 (MQ below (va_Qi (fun (r' : Int32) (_ : Unit) => r' = r) (fun _ t => rc_W Y sh rf σ' t.heap) (rc_A sh s.heap.size)) ([.ref a0] : List Value).toArray s 0 0 (rc_A sh s.heap.size)) (F0 m 30 ls []) := by
    intro  K hKK n
    induction n with
    | zero =>
      intro v1 σ H locs ls hm
      rw [f_X9_undo_30] at hm
      cases hm
    | succ n ih =>
      intro v1 σ H locs ls hm hW hS hl
      rw [f_X9_undo_30] at hm
      refine lv_iload_n hx hb dX9_undo_30 rfl (lv_at hl 1 rfl) ?_
      refine lv_bipush (v := 107) hx hb dX9_undo_31 (by decide) ?_
      refine lv_icmp_ge (tgt := 62) hx hb dX9_undo_33 (by decide) (fun c_7 => ?_) (fun c_7 => ?_)
      · replace hm := rc_t hm c_7
        exact hKK v1 σ _ _ _ hm hW hS (lv_sub hl [0] rfl)
      · replace hm := rc_f hm c_7
        refine lv_aload_n hx hb dX9_undo_36 rfl (lv_at hl 0 rfl) ?_
        refine rg_10_1 hx hb hts hown hK hW h0 tw_7_70 dX9_undo_37 ?_
        refine lv_iload_n hx hb dX9_undo_40 rfl (lv_at hl 1 rfl) ?_
        refine lv_aload_n hx hb dX9_undo_41 rfl (lv_at hl 0 rfl) ?_
        refine rg_10_4 hx hb hts hown hK hW h0 tw_7_73 dX9_undo_42 ?_
        refine lv_bipush (v := 107) hx hb dX9_undo_45 (by decide) ?_
        refine lv_aload_n hx hb dX9_undo_47 rfl (lv_at hl 0 rfl) ?_
        refine rg_10_5 hx hb hts hown hK hW h0 tw_7_74 dX9_undo_48 ?_
        refine lv_imul hx hb dX9_undo_51 ?_
        refine lv_iload_n hx hb dX9_undo_52 rfl (lv_at hl 1 rfl) ?_
        refine lv_iadd hx hb dX9_undo_53 ?_
        have hi_3 := (rc_ix hm).1
        replace hm := (rc_ix hm).2
        refine rc_ialdj (j := (((107 : Int32) * (σ a0 5)) + v1).toNatClampNeg) hx hb hK hW (rc_t_10_4 hT h0) (by decide) rfl hi_3 rfl dX9_undo_54 ?_
        have hi_4 := (rc_ix hm).1
        replace hm := (rc_ix hm).2
        refine rc_iastj (j := v1.toNatClampNeg) hx hb hK hW hS (rc_t_10_1 hT h0) (by decide) (fun _ => rfl) hi_4 rfl dX9_undo_55 (fun σ_5 H locs eσ hW hS => ?_)
        replace hm := rc_lt_at hm eσ
        clear eσ
        obtain ⟨v1_6, ev⟩ : ∃ y : Int32, y = (v1 + 1) := ⟨_, rfl⟩
        replace hm := rc_lt_at hm ev
        refine lv_iinc (v := v1_6) (lv' := [(1, .int v1_6), (0, .ref a0)]) hx hb dX9_undo_56 hl (k := 1) rfl (by rw [ev]; rfl) (by decide) rfl (fun ls hl => ?_)
        clear ev
        refine lv_goto (tgt := 30) hx hb dX9_undo_59 (by decide) ?_
        exact ih v1_6 σ_5 _ _ _ hm hW hS (lv_sub hl [1, 0] rfl)
  unfold f_X9_undo at hm
  refine lv_aload_n hx hb dX9_undo_0 rfl (lv_at hl 0 rfl) ?_
  refine lv_iconst (v := 0) hx hb dX9_undo_1 (by decide) ?_
  refine rp_10_0 hx hb hts hown hK hW hS h0 tw_7_69 dX9_undo_2 (fun σ_1 H locs eσ hW hS => ?_)
  replace hm := rc_lt_at hm eσ
  clear eσ
  refine lv_aload_n hx hb dX9_undo_5 rfl (lv_at hl 0 rfl) ?_
  refine rg_10_5 hx hb hts hown hK hW h0 tw_7_74 dX9_undo_6 ?_
  refine lv_if_ne (tgt := 18) hx hb dX9_undo_9 (by decide) (fun c_11 => ?_) (fun c_11 => ?_)
  · replace hm := rc_f hm c_11
    refine lv_aload_n hx hb dX9_undo_18 rfl (lv_at hl 0 rfl) ?_
    refine lv_dup hx hb dX9_undo_19 rfl ?_
    refine rg_10_5 hx hb hts hown hK hW h0 tw_7_74 dX9_undo_20 ?_
    refine lv_iconst (v := 1) hx hb dX9_undo_23 (by decide) ?_
    refine lv_isub hx hb dX9_undo_24 ?_
    refine rp_10_5 hx hb hts hown hK hW hS h0 tw_7_74 dX9_undo_25 (fun σ_2 H locs eσ hW hS => ?_)
    replace hm := rc_lt_at hm eσ
    clear eσ
    refine lv_iconst (v := 0) hx hb dX9_undo_28 (by decide) ?_
    refine lv_istore_n (lv' := [(1, .int (0 : Int32)), (0, .ref a0)]) hx hb dX9_undo_29 rfl hl (by decide) rfl (fun ls hl => ?_)
    refine lp_30 _ (fun v1_8 σ_9 H locs ls hm hW hS hl => ?_) rc_fu (0 : Int32) σ_2 _ _ _ hm hW hS (lv_sub hl [1, 0] rfl)
    refine lv_aload_n hx hb dX9_undo_62 rfl (lv_at hl 0 rfl) ?_
    refine rg_10_5 hx hb hts hown hK hW h0 tw_7_74 dX9_undo_63 ?_
    exact rc_eiret hx hb hr hlocks hW hS (Nat.le_of_ble_eq_true rfl) (Nat.le_of_ble_eq_true rfl) hm dX9_undo_66
  · replace hm := rc_t hm c_11
    refine lv_aload_n hx hb dX9_undo_12 rfl (lv_at hl 0 rfl) ?_
    refine lv_iconst (v := 1) hx hb dX9_undo_13 (by decide) ?_
    obtain ⟨w_10, σ_10, hc_10, hm0⟩ := rc_bd_inv hm
    clear hm
    refine rc_ci hS (va_runV (As := [.int (1 : Int32)]) (rest := []) ⟨hx, hb, hml, hown, hts⟩ (k_X9_fails l hT a0 (1 : Int32) h0 H.size _ _ _ hc_10) (cwV 1 hts (rc_gV tw_7_187 tw_7_189 tw_p_26 tw_1_14 tw_7_190) rfl rfl rfl (by decide +kernel) ⟨Nat.le_of_ble_eq_true rfl, Nat.le_of_ble_eq_true rfl⟩) (rc_preV hT hW hK hE hS h0 (by decide) rfl (q := (RX9, TX9, 22)) rfl [.int (1 : Int32)]) rfl rfl hl.1 rfl (lv_room (Nat.le_of_ble_eq_true rfl)) dX9_undo_14 ⟨Nat.le_of_ble_eq_true rfl, Nat.le_of_ble_eq_true rfl⟩) (fun H locs hW hS => ?_)
    have hm := hm0
    clear hm0 hc_10
    exact rc_eiret hx hb hr hlocks hW hS (Nat.le_of_ble_eq_true rfl) (Nat.le_of_ble_eq_true rfl) hm dX9_undo_17
set_option maxHeartbeats 4000000 in
set_option maxRecDepth 100000 in
theorem k_X9_save (l : Launch) {Y : rc_Y} {sh : Nat → Nat} {rf : rc_F} (hT : rc_T Y sh rf) (a0 : Nat) (h0 : sh a0 = 10) (sz : Nat) (σ σ' : rc_S) (r : Int32) (hm : f_X9_save rf a0 σ = some (r, σ')) : Met l yX9_save (Cond.code yX9_save cX9_save 2 (some .int) :: rc_big) ({ frames := 0, cells := 0, slots := 0, locals := 0 } : Room) (rc_P Y sh rf σ sz [.ref a0]) (va_Qi (fun (r' : Int32) (_ : Unit) => r' = r) (fun _ t => rc_W Y sh rf σ' t.heap) (rc_A sh sz)) 0 0 (rc_A sh sz) := by
  refine Met.ofW (cc := cX9_save) (maxL := 2) (ret := (some .int)) (by decide +kernel) rfl ?_
  intro p e s m args below meth c s₁ B hml hv
  obtain ⟨rfl, hsz, hW, hK, hE⟩ := hv
  have hx := B.exec
  have hb := B.bytes
  have hr := B.returns
  have hts : ∀ w ∈ rc_big, w.before _ s = true := fun w h => atoms_spec (ws := Cond.code yX9_save cX9_save 2 (some .int) :: rc_big) B.pre w (List.mem_cons_of_mem _ h)
  have hown : s.vm.findClass RX9 = some m.cls := findClass_of_methodNamed B.named
  have hlocks := B.notSynchronized
  clear B
  subst hsz
  have hS : va_S (rc_A sh s.heap.size) s.heap s.heap [] := va_S.rf
  have hl := lv_entry ([.ref a0]) (n := 2) (Nat.le_of_ble_eq_true rfl)
  rw [lg_entry_eq]
  generalize (lg_sl ([.ref a0]) ++ List.replicate (2 - (lg_sl ([.ref a0])).length) Slot.unset).toArray = ls at hl ⊢
  have hl : lv_has ls 2 [(0, .ref a0)] := hl
  have lp_7 : ∀ (K : Int32 → rc_S → Option (Int32 × rc_S)) (hKK : ∀ (v1 : Int32) (σ : rc_S) (H : Heap) (locs : List Loc) (ls : Array Slot), K v1 σ = some (r, σ') → rc_W Y sh rf σ H → va_S (rc_A sh s.heap.size) s.heap H locs → lv_has ls 2 [(0, .ref a0)] → W p l e (headSpec (Cond.code yX9_save cX9_save 2 (some .int) :: rc_big) ({ frames := 0, cells := 0, slots := 0, locals := 0 } : Room)).room s m (([.ref a0] : List Value).toArray) below meth c H locs 0 0 (MQ below (va_Qi (fun (r' : Int32) (_ : Unit) => r' = r) (fun _ t => rc_W Y sh rf σ' t.heap) (rc_A sh s.heap.size)) ([.ref a0] : List Value).toArray s 0 0 (rc_A sh s.heap.size)) (F0 m 31 ls [])) (n : Nat) (v1 : Int32) (σ : rc_S) (H : Heap) (locs : List Loc) (ls : Array Slot), f_X9_save_7 rf a0 K n v1 σ = some (r, σ') → rc_W Y sh rf σ H → va_S (rc_A sh s.heap.size) s.heap H locs → lv_has ls 2 [(0, .ref a0), (1, .int v1)] → W p l e (headSpec (Cond.code yX9_save cX9_save 2 (some .int) :: rc_big) ({ frames := 0, cells := 0, slots := 0, locals := 0 } : Room)).room s m (([.ref a0] : List Value).toArray) below meth c H locs 0 0 (MQ below (va_Qi (fun (r' : Int32) (_ : Unit) => r' = r) (fun _ t => rc_W Y sh rf σ' t.heap) (rc_A sh s.heap.size)) ([.ref a0] : List Value).toArray s 0 0 (rc_A sh s.heap.size)) (F0 m 7 ls []) := by
    intro  K hKK n
    induction n with
    | zero =>
      intro v1 σ H locs ls hm
      rw [f_X9_save_7] at hm
      cases hm
    | succ n ih =>
      intro v1 σ H locs ls hm hW hS hl
      rw [f_X9_save_7] at hm
      refine lv_iload_n hx hb dX9_save_7 rfl (lv_at hl 1 rfl) ?_
      refine lv_bipush (v := 107) hx hb dX9_save_8 (by decide) ?_
      refine lv_icmp_ge (tgt := 31) hx hb dX9_save_10 (by decide) (fun c_6 => ?_) (fun c_6 => ?_)
      · replace hm := rc_t hm c_6
        exact hKK v1 σ _ _ _ hm hW hS (lv_sub hl [0] rfl)
      · replace hm := rc_f hm c_6
        refine lv_aload_n hx hb dX9_save_13 rfl (lv_at hl 0 rfl) ?_
        refine rg_10_3 hx hb hts hown hK hW h0 tw_7_72 dX9_save_14 ?_
        refine lv_iload_n hx hb dX9_save_17 rfl (lv_at hl 1 rfl) ?_
        refine lv_aload_n hx hb dX9_save_18 rfl (lv_at hl 0 rfl) ?_
        refine rg_10_1 hx hb hts hown hK hW h0 tw_7_70 dX9_save_19 ?_
        refine lv_iload_n hx hb dX9_save_22 rfl (lv_at hl 1 rfl) ?_
        have hi_2 := (rc_ix hm).1
        replace hm := (rc_ix hm).2
        refine rc_ialdj (j := v1.toNatClampNeg) hx hb hK hW (rc_t_10_1 hT h0) (by decide) rfl hi_2 rfl dX9_save_23 ?_
        have hi_3 := (rc_ix hm).1
        replace hm := (rc_ix hm).2
        refine rc_iastj (j := v1.toNatClampNeg) hx hb hK hW hS (rc_t_10_3 hT h0) (by decide) (fun _ => rfl) hi_3 rfl dX9_save_24 (fun σ_4 H locs eσ hW hS => ?_)
        replace hm := rc_lt_at hm eσ
        clear eσ
        obtain ⟨v1_5, ev⟩ : ∃ y : Int32, y = (v1 + 1) := ⟨_, rfl⟩
        replace hm := rc_lt_at hm ev
        refine lv_iinc (v := v1_5) (lv' := [(1, .int v1_5), (0, .ref a0)]) hx hb dX9_save_25 hl (k := 1) rfl (by rw [ev]; rfl) (by decide) rfl (fun ls hl => ?_)
        clear ev
        refine lv_goto (tgt := 7) hx hb dX9_save_28 (by decide) ?_
        exact ih v1_5 σ_4 _ _ _ hm hW hS (lv_sub hl [1, 0] rfl)
  unfold f_X9_save at hm
  refine lv_aload_n hx hb dX9_save_0 rfl (lv_at hl 0 rfl) ?_
  refine lv_iconst (v := 0) hx hb dX9_save_1 (by decide) ?_
  refine rp_10_0 hx hb hts hown hK hW hS h0 tw_7_69 dX9_save_2 (fun σ_1 H locs eσ hW hS => ?_)
  replace hm := rc_lt_at hm eσ
  clear eσ
  refine lv_iconst (v := 0) hx hb dX9_save_5 (by decide) ?_
  refine lv_istore_n (lv' := [(1, .int (0 : Int32)), (0, .ref a0)]) hx hb dX9_save_6 rfl hl (by decide) rfl (fun ls hl => ?_)
  refine lp_7 _ (fun v1_7 σ_8 H locs ls hm hW hS hl => ?_) rc_fu (0 : Int32) σ_1 _ _ _ hm hW hS (lv_sub hl [1, 0] rfl)
  refine lv_aload_n hx hb dX9_save_31 rfl (lv_at hl 0 rfl) ?_
  refine lv_iconst (v := 1) hx hb dX9_save_32 (by decide) ?_
  refine rp_10_6 hx hb hts hown hK hW hS h0 tw_7_75 rfl rfl dX9_save_33 (fun σ_9 H locs eσ hW hS => ?_)
  replace hm := rc_lt_at hm eσ
  clear eσ
  refine lv_aload_n hx hb dX9_save_36 rfl (lv_at hl 0 rfl) ?_
  refine rg_10_1 hx hb hts hown hK hW h0 tw_7_70 dX9_save_37 ?_
  refine lv_iconst (v := 0) hx hb dX9_save_40 (by decide) ?_
  refine rc_ialdj (j := 0) hx hb hK hW (rc_t_10_1 hT h0) (by decide) rfl (rc_inD (by decide)) (by decide) dX9_save_41 ?_
  exact rc_eiret hx hb hr hlocks hW hS (Nat.le_of_ble_eq_true rfl) (Nat.le_of_ble_eq_true rfl) hm dX9_save_42
set_option maxHeartbeats 4000000 in
set_option maxRecDepth 100000 in
theorem k_X9_restore (l : Launch) {Y : rc_Y} {sh : Nat → Nat} {rf : rc_F} (hT : rc_T Y sh rf) (a0 : Nat) (h0 : sh a0 = 10) (sz : Nat) (σ σ' : rc_S) (r : Int32) (hm : f_X9_restore rf a0 σ = some (r, σ')) : Met l yX9_restore (Cond.code yX9_restore cX9_restore 2 (some .int) :: rc_big) ({ frames := 1, cells := 0, slots := 0, locals := 21 } : Room) (rc_P Y sh rf σ sz [.ref a0]) (va_Qi (fun (r' : Int32) (_ : Unit) => r' = r) (fun _ t => rc_W Y sh rf σ' t.heap) (rc_A sh sz)) 0 0 (rc_A sh sz) := by
  refine Met.ofW (cc := cX9_restore) (maxL := 2) (ret := (some .int)) (by decide +kernel) rfl ?_
  intro p e s m args below meth c s₁ B hml hv
  obtain ⟨rfl, hsz, hW, hK, hE⟩ := hv
  have hx := B.exec
  have hb := B.bytes
  have hr := B.returns
  have hts : ∀ w ∈ rc_big, w.before _ s = true := fun w h => atoms_spec (ws := Cond.code yX9_restore cX9_restore 2 (some .int) :: rc_big) B.pre w (List.mem_cons_of_mem _ h)
  have hown : s.vm.findClass RX9 = some m.cls := findClass_of_methodNamed B.named
  have hlocks := B.notSynchronized
  clear B
  subst hsz
  have hS : va_S (rc_A sh s.heap.size) s.heap s.heap [] := va_S.rf
  have hl := lv_entry ([.ref a0]) (n := 2) (Nat.le_of_ble_eq_true rfl)
  rw [lg_entry_eq]
  generalize (lg_sl ([.ref a0]) ++ List.replicate (2 - (lg_sl ([.ref a0])).length) Slot.unset).toArray = ls at hl ⊢
  have hl : lv_has ls 2 [(0, .ref a0)] := hl
  have lp_20 : ∀ (K : Int32 → rc_S → Option (Int32 × rc_S)) (hKK : ∀ (v1 : Int32) (σ : rc_S) (H : Heap) (locs : List Loc) (ls : Array Slot), K v1 σ = some (r, σ') → rc_W Y sh rf σ H → va_S (rc_A sh s.heap.size) s.heap H locs → lv_has ls 2 [(0, .ref a0)] → W p l e (headSpec (Cond.code yX9_restore cX9_restore 2 (some .int) :: rc_big) ({ frames := 1, cells := 0, slots := 0, locals := 21 } : Room)).room s m (([.ref a0] : List Value).toArray) below meth c H locs 0 0 (MQ below (va_Qi (fun (r' : Int32) (_ : Unit) => r' = r) (fun _ t => rc_W Y sh rf σ' t.heap) (rc_A sh s.heap.size)) ([.ref a0] : List Value).toArray s 0 0 (rc_A sh s.heap.size)) (F0 m 44 ls [])) (n : Nat) (v1 : Int32) (σ : rc_S) (H : Heap) (locs : List Loc) (ls : Array Slot), f_X9_restore_20 rf a0 K n v1 σ = some (r, σ') → rc_W Y sh rf σ H → va_S (rc_A sh s.heap.size) s.heap H locs → lv_has ls 2 [(0, .ref a0), (1, .int v1)] → W p l e (headSpec (Cond.code yX9_restore cX9_restore 2 (some .int) :: rc_big) ({ frames := 1, cells := 0, slots := 0, locals := 21 } : Room)).room s m (([.ref a0] : List Value).toArray) below meth c H locs 0 0 (MQ below (va_Qi (fun (r' : Int32) (_ : Unit) => r' = r) (fun _ t => rc_W Y sh rf σ' t.heap) (rc_A sh s.heap.size)) ([.ref a0] : List Value).toArray s 0 0 (rc_A sh s.heap.size)) (F0 m 20 ls []) := by
    intro  K hKK n
    induction n with
    | zero =>
      intro v1 σ H locs ls hm
      rw [f_X9_restore_20] at hm
      cases hm
    | succ n ih =>
      intro v1 σ H locs ls hm hW hS hl
      rw [f_X9_restore_20] at hm
      refine lv_iload_n hx hb dX9_restore_20 rfl (lv_at hl 1 rfl) ?_
      refine lv_bipush (v := 107) hx hb dX9_restore_21 (by decide) ?_
      refine lv_icmp_ge (tgt := 44) hx hb dX9_restore_23 (by decide) (fun c_6 => ?_) (fun c_6 => ?_)
      · replace hm := rc_t hm c_6
        exact hKK v1 σ _ _ _ hm hW hS (lv_sub hl [0] rfl)
      · replace hm := rc_f hm c_6
        refine lv_aload_n hx hb dX9_restore_26 rfl (lv_at hl 0 rfl) ?_
        refine rg_10_1 hx hb hts hown hK hW h0 tw_7_70 dX9_restore_27 ?_
        refine lv_iload_n hx hb dX9_restore_30 rfl (lv_at hl 1 rfl) ?_
        refine lv_aload_n hx hb dX9_restore_31 rfl (lv_at hl 0 rfl) ?_
        refine rg_10_3 hx hb hts hown hK hW h0 tw_7_72 dX9_restore_32 ?_
        refine lv_iload_n hx hb dX9_restore_35 rfl (lv_at hl 1 rfl) ?_
        have hi_2 := (rc_ix hm).1
        replace hm := (rc_ix hm).2
        refine rc_ialdj (j := v1.toNatClampNeg) hx hb hK hW (rc_t_10_3 hT h0) (by decide) rfl hi_2 rfl dX9_restore_36 ?_
        have hi_3 := (rc_ix hm).1
        replace hm := (rc_ix hm).2
        refine rc_iastj (j := v1.toNatClampNeg) hx hb hK hW hS (rc_t_10_1 hT h0) (by decide) (fun _ => rfl) hi_3 rfl dX9_restore_37 (fun σ_4 H locs eσ hW hS => ?_)
        replace hm := rc_lt_at hm eσ
        clear eσ
        obtain ⟨v1_5, ev⟩ : ∃ y : Int32, y = (v1 + 1) := ⟨_, rfl⟩
        replace hm := rc_lt_at hm ev
        refine lv_iinc (v := v1_5) (lv' := [(1, .int v1_5), (0, .ref a0)]) hx hb dX9_restore_38 hl (k := 1) rfl (by rw [ev]; rfl) (by decide) rfl (fun ls hl => ?_)
        clear ev
        refine lv_goto (tgt := 20) hx hb dX9_restore_41 (by decide) ?_
        exact ih v1_5 σ_4 _ _ _ hm hW hS (lv_sub hl [1, 0] rfl)
  unfold f_X9_restore at hm
  refine lv_aload_n hx hb dX9_restore_0 rfl (lv_at hl 0 rfl) ?_
  refine lv_iconst (v := 0) hx hb dX9_restore_1 (by decide) ?_
  refine rp_10_0 hx hb hts hown hK hW hS h0 tw_7_69 dX9_restore_2 (fun σ_1 H locs eσ hW hS => ?_)
  replace hm := rc_lt_at hm eσ
  clear eσ
  refine lv_aload_n hx hb dX9_restore_5 rfl (lv_at hl 0 rfl) ?_
  refine rg_10_6 hx hb hts hown hK hW h0 tw_7_75 dX9_restore_6 ?_
  refine lv_if_ne (tgt := 18) hx hb dX9_restore_9 (by decide) (fun c_11 => ?_) (fun c_11 => ?_)
  · replace hm := rc_f hm c_11
    refine lv_iconst (v := 0) hx hb dX9_restore_18 (by decide) ?_
    refine lv_istore_n (lv' := [(1, .int (0 : Int32)), (0, .ref a0)]) hx hb dX9_restore_19 rfl hl (by decide) rfl (fun ls hl => ?_)
    refine lp_20 _ (fun v1_7 σ_8 H locs ls hm hW hS hl => ?_) rc_fu (0 : Int32) σ_1 _ _ _ hm hW hS (lv_sub hl [1, 0] rfl)
    refine lv_aload_n hx hb dX9_restore_44 rfl (lv_at hl 0 rfl) ?_
    refine lv_iconst (v := 0) hx hb dX9_restore_45 (by decide) ?_
    refine rp_10_5 hx hb hts hown hK hW hS h0 tw_7_74 dX9_restore_46 (fun σ_9 H locs eσ hW hS => ?_)
    replace hm := rc_lt_at hm eσ
    clear eσ
    refine lv_aload_n hx hb dX9_restore_49 rfl (lv_at hl 0 rfl) ?_
    refine rg_10_1 hx hb hts hown hK hW h0 tw_7_70 dX9_restore_50 ?_
    refine lv_iconst (v := 0) hx hb dX9_restore_53 (by decide) ?_
    refine rc_ialdj (j := 0) hx hb hK hW (rc_t_10_1 hT h0) (by decide) rfl (rc_inD (by decide)) (by decide) dX9_restore_54 ?_
    exact rc_eiret hx hb hr hlocks hW hS (Nat.le_of_ble_eq_true rfl) (Nat.le_of_ble_eq_true rfl) hm dX9_restore_55
  · replace hm := rc_t hm c_11
    refine lv_aload_n hx hb dX9_restore_12 rfl (lv_at hl 0 rfl) ?_
    refine lv_iconst (v := 1) hx hb dX9_restore_13 (by decide) ?_
    obtain ⟨w_10, σ_10, hc_10, hm0⟩ := rc_bd_inv hm
    clear hm
    refine rc_ci hS (va_runV (As := [.int (1 : Int32)]) (rest := []) ⟨hx, hb, hml, hown, hts⟩ (k_X9_fails l hT a0 (1 : Int32) h0 H.size _ _ _ hc_10) (cwV 1 hts (rc_gV tw_7_187 tw_7_189 tw_p_26 tw_1_14 tw_7_190) rfl rfl rfl (by decide +kernel) ⟨Nat.le_of_ble_eq_true rfl, Nat.le_of_ble_eq_true rfl⟩) (rc_preV hT hW hK hE hS h0 (by decide) rfl (q := (RX9, TX9, 22)) rfl [.int (1 : Int32)]) rfl rfl hl.1 rfl (lv_room (Nat.le_of_ble_eq_true rfl)) dX9_restore_14 ⟨Nat.le_of_ble_eq_true rfl, Nat.le_of_ble_eq_true rfl⟩) (fun H locs hW hS => ?_)
    have hm := hm0
    clear hm0 hc_10
    exact rc_eiret hx hb hr hlocks hW hS (Nat.le_of_ble_eq_true rfl) (Nat.le_of_ble_eq_true rfl) hm dX9_restore_17
set_option maxHeartbeats 4000000 in
set_option maxRecDepth 100000 in
theorem k_X0_copy (l : Launch) {Y : rc_Y} {sh : Nat → Nat} {rf : rc_F} (hT : rc_T Y sh rf) (a0 : Nat) (q1 : Nat) (h0 : sh a0 = 1) (hq1 : sh q1 = 1) (sz : Nat) (σ σ' : rc_S) (r : Unit) (hm : f_X0_copy rf a0 q1 σ = some (r, σ')) : Met l yX0_copy (Cond.code yX0_copy cX0_copy 2 none :: rc_big) ({ frames := 1, cells := 0, slots := 0, locals := 21 } : Room) (rc_P Y sh rf σ sz [.ref a0, .ref q1]) (va_Qv (fun (_ : Unit) => True) (fun _ t => rc_W Y sh rf σ' t.heap) (rc_A sh sz)) 0 0 (rc_A sh sz) := by
  refine Met.ofW (cc := cX0_copy) (maxL := 2) (ret := none) (by decide +kernel) rfl ?_
  intro p e s m args below meth c s₁ B hml hv
  obtain ⟨rfl, hsz, hW, hK, hE⟩ := hv
  have hx := B.exec
  have hb := B.bytes
  have hr := B.returns
  have hts : ∀ w ∈ rc_big, w.before _ s = true := fun w h => atoms_spec (ws := Cond.code yX0_copy cX0_copy 2 none :: rc_big) B.pre w (List.mem_cons_of_mem _ h)
  have hown : s.vm.findClass RX0 = some m.cls := findClass_of_methodNamed B.named
  have hlocks := B.notSynchronized
  clear B
  subst hsz
  have hS : va_S (rc_A sh s.heap.size) s.heap s.heap [] := va_S.rf
  have hl := lv_entry ([.ref a0, .ref q1]) (n := 2) (Nat.le_of_ble_eq_true rfl)
  rw [lg_entry_eq]
  generalize (lg_sl ([.ref a0, .ref q1]) ++ List.replicate (2 - (lg_sl ([.ref a0, .ref q1])).length) Slot.unset).toArray = ls at hl ⊢
  have hl : lv_has ls 2 [(0, .ref a0), (1, .ref q1)] := hl
  unfold f_X0_copy at hm
  refine lv_aload_n hx hb dX0_copy_0 rfl (lv_at hl 0 rfl) ?_
  refine lv_aload_n hx hb dX0_copy_1 rfl (lv_at hl 1 rfl) ?_
  refine rg_1_0 hx hb hts hown hK hW hq1 tw_1_86 dX0_copy_2 ?_
  refine rp_1_0 hx hb hts hown hK hW hS h0 tw_1_86 dX0_copy_5 (fun σ_1 H locs eσ hW hS => ?_)
  replace hm := rc_lt_at hm eσ
  clear eσ
  refine lv_aload_n hx hb dX0_copy_8 rfl (lv_at hl 0 rfl) ?_
  refine lv_aload_n hx hb dX0_copy_9 rfl (lv_at hl 1 rfl) ?_
  refine rg_1_1 hx hb hts hown hK hW hq1 tw_1_90 dX0_copy_10 ?_
  refine rp_1_1 hx hb hts hown hK hW hS h0 tw_1_90 dX0_copy_13 (fun σ_2 H locs eσ hW hS => ?_)
  replace hm := rc_lt_at hm eσ
  clear eσ
  refine lv_aload_n hx hb dX0_copy_16 rfl (lv_at hl 0 rfl) ?_
  refine lv_aload_n hx hb dX0_copy_17 rfl (lv_at hl 1 rfl) ?_
  refine rg_1_2 hx hb hts hown hK hW hq1 tw_1_94 dX0_copy_18 ?_
  refine rp_1_2 hx hb hts hown hK hW hS h0 tw_1_94 dX0_copy_21 (fun σ_3 H locs eσ hW hS => ?_)
  replace hm := rc_lt_at hm eσ
  clear eσ
  refine lv_aload_n hx hb dX0_copy_24 rfl (lv_at hl 0 rfl) ?_
  refine lv_aload_n hx hb dX0_copy_25 rfl (lv_at hl 1 rfl) ?_
  obtain ⟨w_4, σ_4, hc_4, hm0⟩ := rc_bd_inv hm
  clear hm
  refine rc_cv hS (va_runV (As := [.ref q1]) (rest := []) ⟨hx, hb, hml, hown, hts⟩ (k_X0_copyVintage l hT a0 q1 h0 hq1 H.size _ _ _ hc_4) (cwV 1 hts (rc_gV tw_2_136 tw_2_137 tw_2_138 tw_1_5 tw_2_139) rfl rfl rfl (by decide +kernel) ⟨Nat.le_of_ble_eq_true rfl, Nat.le_of_ble_eq_true rfl⟩) (rc_preV hT hW hK hE hS h0 (by decide) rfl (q := (RX0, TX0, 6)) rfl [.ref q1]) rfl rfl hl.1 rfl (lv_room (Nat.le_of_ble_eq_true rfl)) dX0_copy_26 ⟨Nat.le_of_ble_eq_true rfl, Nat.le_of_ble_eq_true rfl⟩) (fun H locs hW hS => ?_)
  have hm := hm0
  clear hm0 hc_4
  exact rc_evret hx hb hr hlocks hW hS (Nat.le_of_ble_eq_true rfl) (Nat.le_of_ble_eq_true rfl) hm dX0_copy_29
set_option maxHeartbeats 4000000 in
set_option maxRecDepth 100000 in
theorem k_X0_hailPart (l : Launch) {Y : rc_Y} {sh : Nat → Nat} {rf : rc_F} (hT : rc_T Y sh rf) (a0 : Nat) (h0 : sh a0 = 1) (sz : Nat) (σ σ' : rc_S) (r : Int32) (hm : f_X0_hailPart rf a0 σ = some (r, σ')) : Met l yX0_hailPart (Cond.code yX0_hailPart cX0_hailPart 1 (some .int) :: rc_big) ({ frames := 1, cells := 0, slots := 0, locals := 22 } : Room) (rc_P Y sh rf σ sz [.ref a0]) (va_Qi (fun (r' : Int32) (_ : Unit) => r' = r) (fun _ t => rc_W Y sh rf σ' t.heap) (rc_A sh sz)) 0 0 (rc_A sh sz) := by
  refine Met.ofW (cc := cX0_hailPart) (maxL := 1) (ret := (some .int)) (by decide +kernel) rfl ?_
  intro p e s m args below meth c s₁ B hml hv
  obtain ⟨rfl, hsz, hW, hK, hE⟩ := hv
  have hx := B.exec
  have hb := B.bytes
  have hr := B.returns
  have hts : ∀ w ∈ rc_big, w.before _ s = true := fun w h => atoms_spec (ws := Cond.code yX0_hailPart cX0_hailPart 1 (some .int) :: rc_big) B.pre w (List.mem_cons_of_mem _ h)
  have hown : s.vm.findClass RX0 = some m.cls := findClass_of_methodNamed B.named
  have hlocks := B.notSynchronized
  clear B
  subst hsz
  have hS : va_S (rc_A sh s.heap.size) s.heap s.heap [] := va_S.rf
  have hl := lv_entry ([.ref a0]) (n := 1) (Nat.le_of_ble_eq_true rfl)
  rw [lg_entry_eq]
  generalize (lg_sl ([.ref a0]) ++ List.replicate (1 - (lg_sl ([.ref a0])).length) Slot.unset).toArray = ls at hl ⊢
  have hl : lv_has ls 1 [(0, .ref a0)] := hl
  unfold f_X0_hailPart at hm
  refine lv_aload_n hx hb dX0_hailPart_0 rfl (lv_at hl 0 rfl) ?_
  refine lv_iconst (v := 0) hx hb dX0_hailPart_1 (by decide) ?_
  obtain ⟨w_1, σ_1, hc_1, hm0⟩ := rc_bd_inv hm
  clear hm
  refine rc_ci hS (va_runV (As := [.int (0 : Int32)]) (rest := []) ⟨hx, hb, hml, hown, hts⟩ (k_X0_hailPartWith l hT a0 (0 : Int32) h0 s.heap.size _ _ _ hc_1) (cwV 1 hts (rc_gV tw_4_216 tw_4_217 tw_4_218 tw_1_5 tw_4_219) rfl rfl rfl (by decide +kernel) ⟨Nat.le_of_ble_eq_true rfl, Nat.le_of_ble_eq_true rfl⟩) (rc_preV hT hW hK hE hS h0 (by decide) rfl (q := (RX0, TX0, 6)) rfl [.int (0 : Int32)]) rfl rfl hl.1 rfl (lv_room (Nat.le_of_ble_eq_true rfl)) dX0_hailPart_2 ⟨Nat.le_of_ble_eq_true rfl, Nat.le_of_ble_eq_true rfl⟩) (fun H locs hW hS => ?_)
  have hm := hm0
  clear hm0 hc_1
  exact rc_eiret hx hb hr hlocks hW hS (Nat.le_of_ble_eq_true rfl) (Nat.le_of_ble_eq_true rfl) hm dX0_hailPart_5
set_option maxHeartbeats 4000000 in
set_option maxRecDepth 100000 in
theorem k_X0_noteOfTaste (l : Launch) {Y : rc_Y} {sh : Nat → Nat} {rf : rc_F} (hT : rc_T Y sh rf) (a0 : Nat) (u1 : Int32) (h0 : sh a0 = 1) (sz : Nat) (σ σ' : rc_S) (r : Int32) (hm : f_X0_noteOfTaste rf a0 u1 σ = some (r, σ')) : Met l yX0_noteOfTaste (Cond.code yX0_noteOfTaste cX0_noteOfTaste 2 (some .int) :: rc_big) ({ frames := 2, cells := 0, slots := 0, locals := 42 } : Room) (rc_P Y sh rf σ sz [.ref a0, .int u1]) (va_Qi (fun (r' : Int32) (_ : Unit) => r' = r) (fun _ t => rc_W Y sh rf σ' t.heap) (rc_A sh sz)) 0 0 (rc_A sh sz) := by
  refine Met.ofW (cc := cX0_noteOfTaste) (maxL := 2) (ret := (some .int)) (by decide +kernel) rfl ?_
  intro p e s m args below meth c s₁ B hml hv
  obtain ⟨rfl, hsz, hW, hK, hE⟩ := hv
  have hx := B.exec
  have hb := B.bytes
  have hr := B.returns
  have hts : ∀ w ∈ rc_big, w.before _ s = true := fun w h => atoms_spec (ws := Cond.code yX0_noteOfTaste cX0_noteOfTaste 2 (some .int) :: rc_big) B.pre w (List.mem_cons_of_mem _ h)
  have hown : s.vm.findClass RX0 = some m.cls := findClass_of_methodNamed B.named
  have hlocks := B.notSynchronized
  clear B
  subst hsz
  have hS : va_S (rc_A sh s.heap.size) s.heap s.heap [] := va_S.rf
  have hl := lv_entry ([.ref a0, .int u1]) (n := 2) (Nat.le_of_ble_eq_true rfl)
  rw [lg_entry_eq]
  generalize (lg_sl ([.ref a0, .int u1]) ++ List.replicate (2 - (lg_sl ([.ref a0, .int u1])).length) Slot.unset).toArray = ls at hl ⊢
  have hl : lv_has ls 2 [(0, .ref a0), (1, .int u1)] := hl
  unfold f_X0_noteOfTaste at hm
  refine lv_iload_n hx hb dX0_noteOfTaste_0 rfl (lv_at hl 1 rfl) ?_
  refine lv_bipush (v := 100) hx hb dX0_noteOfTaste_1 (by decide) ?_
  refine lv_aload_n hx hb dX0_noteOfTaste_3 rfl (lv_at hl 0 rfl) ?_
  obtain ⟨w_1, σ_1, hc_1, hm0⟩ := rc_bd_inv hm
  clear hm
  refine rc_ci hS (va_runV (As := []) (rest := [.int (100 : Int32), .int u1]) ⟨hx, hb, hml, hown, hts⟩ (k_X0_hailPart l hT a0 h0 s.heap.size _ _ _ hc_1) (cwV 0 hts (rc_gV tw_4_212 tw_4_213 tw_4_214 tw_1_5 tw_4_215) rfl rfl rfl (by decide +kernel) ⟨Nat.le_of_ble_eq_true rfl, Nat.le_of_ble_eq_true rfl⟩) (rc_preV hT hW hK hE hS h0 (by decide) rfl (q := (RX0, TX0, 6)) rfl []) rfl rfl hl.1 rfl (lv_room (Nat.le_of_ble_eq_true rfl)) dX0_noteOfTaste_4 ⟨Nat.le_of_ble_eq_true rfl, Nat.le_of_ble_eq_true rfl⟩) (fun H locs hW hS => ?_)
  have hm := hm0
  clear hm0 hc_1
  refine lv_isub hx hb dX0_noteOfTaste_7 ?_
  refine lv_imul hx hb dX0_noteOfTaste_8 ?_
  refine lv_bipush (v := 100) hx hb dX0_noteOfTaste_9 (by decide) ?_
  refine lv_idiv hx hb dX0_noteOfTaste_11 (by decide) ?_
  exact rc_eiret hx hb hr hlocks hW hS (Nat.le_of_ble_eq_true rfl) (Nat.le_of_ble_eq_true rfl) hm dX0_noteOfTaste_12
set_option maxHeartbeats 4000000 in
set_option maxRecDepth 100000 in
theorem k_X0_hailIn (l : Launch) {Y : rc_Y} {sh : Nat → Nat} {rf : rc_F} (hT : rc_T Y sh rf) (a0 : Nat) (u1 : Int32) (h0 : sh a0 = 1) (sz : Nat) (σ σ' : rc_S) (r : Int32) (hm : f_X0_hailIn rf a0 u1 σ = some (r, σ')) : Met l yX0_hailIn (Cond.code yX0_hailIn cX0_hailIn 3 (some .int) :: rc_big) ({ frames := 2, cells := 0, slots := 0, locals := 42 } : Room) (rc_P Y sh rf σ sz [.ref a0, .int u1]) (va_Qi (fun (r' : Int32) (_ : Unit) => r' = r) (fun _ t => rc_W Y sh rf σ' t.heap) (rc_A sh sz)) 0 0 (rc_A sh sz) := by
  refine Met.ofW (cc := cX0_hailIn) (maxL := 3) (ret := (some .int)) (by decide +kernel) rfl ?_
  intro p e s m args below meth c s₁ B hml hv
  obtain ⟨rfl, hsz, hW, hK, hE⟩ := hv
  have hx := B.exec
  have hb := B.bytes
  have hr := B.returns
  have hts : ∀ w ∈ rc_big, w.before _ s = true := fun w h => atoms_spec (ws := Cond.code yX0_hailIn cX0_hailIn 3 (some .int) :: rc_big) B.pre w (List.mem_cons_of_mem _ h)
  have hown : s.vm.findClass RX0 = some m.cls := findClass_of_methodNamed B.named
  have hlocks := B.notSynchronized
  clear B
  subst hsz
  have hS : va_S (rc_A sh s.heap.size) s.heap s.heap [] := va_S.rf
  have hl := lv_entry ([.ref a0, .int u1]) (n := 3) (Nat.le_of_ble_eq_true rfl)
  rw [lg_entry_eq]
  generalize (lg_sl ([.ref a0, .int u1]) ++ List.replicate (3 - (lg_sl ([.ref a0, .int u1])).length) Slot.unset).toArray = ls at hl ⊢
  have hl : lv_has ls 3 [(0, .ref a0), (1, .int u1)] := hl
  unfold f_X0_hailIn at hm
  refine lv_aload_n hx hb dX0_hailIn_0 rfl (lv_at hl 0 rfl) ?_
  refine rg_1_1 hx hb hts hown hK hW h0 tw_1_90 dX0_hailIn_1 ?_
  refine lv_aload_n hx hb dX0_hailIn_4 rfl (lv_at hl 0 rfl) ?_
  refine rg_1_2 hx hb hts hown hK hW h0 tw_1_94 dX0_hailIn_5 ?_
  refine lv_isub hx hb dX0_hailIn_8 ?_
  refine lv_topi (fun v2_1 ev => ?_)
  replace hm := rc_lt_at hm ev
  clear ev
  refine lv_istore_n (lv' := [(2, .int v2_1), (0, .ref a0), (1, .int u1)]) hx hb dX0_hailIn_9 rfl hl (by decide) rfl (fun ls hl => ?_)
  refine lv_iload_n hx hb dX0_hailIn_10 rfl (lv_at hl 2 rfl) ?_
  refine lv_aload_n hx hb dX0_hailIn_11 rfl (lv_at hl 1 rfl) ?_
  obtain ⟨w_2, σ_2, hc_2, hm0⟩ := rc_bd_inv hm
  clear hm
  refine rc_ci hS (va_runV (As := []) (rest := [.int u1]) ⟨hx, hb, hml, hown, hts⟩ (k_X0_hailPart l hT a0 h0 s.heap.size _ _ _ hc_2) (cwV 0 hts (rc_gV tw_4_212 tw_4_213 tw_4_214 tw_1_5 tw_4_215) rfl rfl rfl (by decide +kernel) ⟨Nat.le_of_ble_eq_true rfl, Nat.le_of_ble_eq_true rfl⟩) (rc_preV hT hW hK hE hS h0 (by decide) rfl (q := (RX0, TX0, 6)) rfl []) rfl rfl hl.1 rfl (lv_room (Nat.le_of_ble_eq_true rfl)) dX0_hailIn_12 ⟨Nat.le_of_ble_eq_true rfl, Nat.le_of_ble_eq_true rfl⟩) (fun H locs hW hS => ?_)
  have hm := hm0
  clear hm0 hc_2
  refine lv_imul hx hb dX0_hailIn_15 ?_
  refine lv_bipush (v := 100) hx hb dX0_hailIn_16 (by decide) ?_
  refine lv_idiv hx hb dX0_hailIn_18 (by decide) ?_
  refine lv_iload_n hx hb dX0_hailIn_19 rfl (lv_at hl 2 rfl) ?_
  refine lv_iload_n hx hb dX0_hailIn_20 rfl (lv_at hl 0 rfl) ?_
  refine lv_isub hx hb dX0_hailIn_21 ?_
  refine va_mmax hx hb (hml.trans hl.1.symm) hown (hts _ tw_4_220) (hts _ tw_2_217) (hts _ tw_1_15) (hts _ tw_2_218) (Nat.le_of_ble_eq_true rfl) (Nat.le_of_ble_eq_true rfl) (Nat.le_of_ble_eq_true rfl) (Nat.le_of_ble_eq_true rfl) dX0_hailIn_22 ?_
  exact rc_eiret hx hb hr hlocks hW hS (Nat.le_of_ble_eq_true rfl) (Nat.le_of_ble_eq_true rfl) hm dX0_hailIn_25
set_option maxHeartbeats 4000000 in
set_option maxRecDepth 100000 in
theorem k_X1_copy (l : Launch) {Y : rc_Y} {sh : Nat → Nat} {rf : rc_F} (hT : rc_T Y sh rf) (a0 : Nat) (q1 : Nat) (h0 : sh a0 = 2) (hq1 : sh q1 = 2) (sz : Nat) (σ σ' : rc_S) (r : Unit) (hm : f_X1_copy rf a0 q1 σ = some (r, σ')) : Met l yX1_copy (Cond.code yX1_copy cX1_copy 3 none :: rc_big) ({ frames := 2, cells := 0, slots := 0, locals := 42 } : Room) (rc_P Y sh rf σ sz [.ref a0, .ref q1]) (va_Qv (fun (_ : Unit) => True) (fun _ t => rc_W Y sh rf σ' t.heap) (rc_A sh sz)) 0 0 (rc_A sh sz) := by
  refine Met.ofW (cc := cX1_copy) (maxL := 3) (ret := none) (by decide +kernel) rfl ?_
  intro p e s m args below meth c s₁ B hml hv
  obtain ⟨rfl, hsz, hW, hK, hE⟩ := hv
  have hx := B.exec
  have hb := B.bytes
  have hr := B.returns
  have hts : ∀ w ∈ rc_big, w.before _ s = true := fun w h => atoms_spec (ws := Cond.code yX1_copy cX1_copy 3 none :: rc_big) B.pre w (List.mem_cons_of_mem _ h)
  have hown : s.vm.findClass RX1 = some m.cls := findClass_of_methodNamed B.named
  have hlocks := B.notSynchronized
  clear B
  subst hsz
  have hS : va_S (rc_A sh s.heap.size) s.heap s.heap [] := va_S.rf
  have hl := lv_entry ([.ref a0, .ref q1]) (n := 3) (Nat.le_of_ble_eq_true rfl)
  rw [lg_entry_eq]
  generalize (lg_sl ([.ref a0, .ref q1]) ++ List.replicate (3 - (lg_sl ([.ref a0, .ref q1])).length) Slot.unset).toArray = ls at hl ⊢
  have hl : lv_has ls 3 [(0, .ref a0), (1, .ref q1)] := hl
  have lp_2 : ∀ (r1 : Nat) (hr1 : sh r1 = 2) (K : Int32 → rc_S → Option (Unit × rc_S)) (hKK : ∀ (v2 : Int32) (σ : rc_S) (H : Heap) (locs : List Loc) (ls : Array Slot), K v2 σ = some (r, σ') → rc_W Y sh rf σ H → va_S (rc_A sh s.heap.size) s.heap H locs → lv_has ls 3 [(0, .ref a0), (1, .ref r1)] → W p l e (headSpec (Cond.code yX1_copy cX1_copy 3 none :: rc_big) ({ frames := 2, cells := 0, slots := 0, locals := 42 } : Room)).room s m (([.ref a0, .ref q1] : List Value).toArray) below meth c H locs 0 0 (MQ below (va_Qv (fun (_ : Unit) => True) (fun _ t => rc_W Y sh rf σ' t.heap) (rc_A sh s.heap.size)) ([.ref a0, .ref q1] : List Value).toArray s 0 0 (rc_A sh s.heap.size)) (F0 m 25 ls [])) (n : Nat) (v2 : Int32) (σ : rc_S) (H : Heap) (locs : List Loc) (ls : Array Slot), f_X1_copy_2 rf a0 r1 K n v2 σ = some (r, σ') → rc_W Y sh rf σ H → va_S (rc_A sh s.heap.size) s.heap H locs → lv_has ls 3 [(0, .ref a0), (1, .ref r1), (2, .int v2)] → W p l e (headSpec (Cond.code yX1_copy cX1_copy 3 none :: rc_big) ({ frames := 2, cells := 0, slots := 0, locals := 42 } : Room)).room s m (([.ref a0, .ref q1] : List Value).toArray) below meth c H locs 0 0 (MQ below (va_Qv (fun (_ : Unit) => True) (fun _ t => rc_W Y sh rf σ' t.heap) (rc_A sh s.heap.size)) ([.ref a0, .ref q1] : List Value).toArray s 0 0 (rc_A sh s.heap.size)) (F0 m 2 ls []) := by
    intro r1 hr1 K hKK n
    induction n with
    | zero =>
      intro v2 σ H locs ls hm
      rw [f_X1_copy_2] at hm
      cases hm
    | succ n ih =>
      intro v2 σ H locs ls hm hW hS hl
      rw [f_X1_copy_2] at hm
      refine lv_iload_n hx hb dX1_copy_2 rfl (lv_at hl 2 rfl) ?_
      refine lv_iconst (v := 4) hx hb dX1_copy_3 (by decide) ?_
      refine lv_icmp_ge (tgt := 25) hx hb dX1_copy_4 (by decide) (fun c_5 => ?_) (fun c_5 => ?_)
      · replace hm := rc_t hm c_5
        exact hKK v2 σ _ _ _ hm hW hS (lv_sub hl [0, 1] rfl)
      · replace hm := rc_f hm c_5
        refine lv_aload_n hx hb dX1_copy_7 rfl (lv_at hl 0 rfl) ?_
        refine rg_2_0 hx hb hts hown hK hW h0 tw_1_141 dX1_copy_8 ?_
        refine lv_iload_n hx hb dX1_copy_11 rfl (lv_at hl 2 rfl) ?_
        refine lv_aload_n hx hb dX1_copy_12 rfl (lv_at hl 1 rfl) ?_
        refine rg_2_0 hx hb hts hown hK hW hr1 tw_1_141 dX1_copy_13 ?_
        refine lv_iload_n hx hb dX1_copy_16 rfl (lv_at hl 2 rfl) ?_
        have hi_1 := (rc_ix hm).1
        replace hm := (rc_ix hm).2
        refine rc_ialdj (j := v2.toNatClampNeg) hx hb hK hW (rc_t_2_0 hT hr1) (by decide) rfl hi_1 rfl dX1_copy_17 ?_
        have hi_2 := (rc_ix hm).1
        replace hm := (rc_ix hm).2
        refine rc_iastj (j := v2.toNatClampNeg) hx hb hK hW hS (rc_t_2_0 hT h0) (by decide) (fun _ => rfl) hi_2 rfl dX1_copy_18 (fun σ_3 H locs eσ hW hS => ?_)
        replace hm := rc_lt_at hm eσ
        clear eσ
        obtain ⟨v2_4, ev⟩ : ∃ y : Int32, y = (v2 + 1) := ⟨_, rfl⟩
        replace hm := rc_lt_at hm ev
        refine lv_iinc (v := v2_4) (lv' := [(2, .int v2_4), (0, .ref a0), (1, .ref r1)]) hx hb dX1_copy_19 hl (k := 2) rfl (by rw [ev]; rfl) (by decide) rfl (fun ls hl => ?_)
        clear ev
        refine lv_goto (tgt := 2) hx hb dX1_copy_22 (by decide) ?_
        exact ih v2_4 σ_3 _ _ _ hm hW hS (lv_sub hl [1, 2, 0] rfl)
  have lp_27 : ∀ (r1 : Nat) (hr1 : sh r1 = 2) (K : Int32 → rc_S → Option (Unit × rc_S)) (hKK : ∀ (v2 : Int32) (σ : rc_S) (H : Heap) (locs : List Loc) (ls : Array Slot), K v2 σ = some (r, σ') → rc_W Y sh rf σ H → va_S (rc_A sh s.heap.size) s.heap H locs → lv_has ls 3 [(0, .ref a0), (1, .ref r1)] → W p l e (headSpec (Cond.code yX1_copy cX1_copy 3 none :: rc_big) ({ frames := 2, cells := 0, slots := 0, locals := 42 } : Room)).room s m (([.ref a0, .ref q1] : List Value).toArray) below meth c H locs 0 0 (MQ below (va_Qv (fun (_ : Unit) => True) (fun _ t => rc_W Y sh rf σ' t.heap) (rc_A sh s.heap.size)) ([.ref a0, .ref q1] : List Value).toArray s 0 0 (rc_A sh s.heap.size)) (F0 m 54 ls [])) (n : Nat) (v2 : Int32) (σ : rc_S) (H : Heap) (locs : List Loc) (ls : Array Slot), f_X1_copy_27 rf a0 r1 K n v2 σ = some (r, σ') → rc_W Y sh rf σ H → va_S (rc_A sh s.heap.size) s.heap H locs → lv_has ls 3 [(0, .ref a0), (1, .ref r1), (2, .int v2)] → W p l e (headSpec (Cond.code yX1_copy cX1_copy 3 none :: rc_big) ({ frames := 2, cells := 0, slots := 0, locals := 42 } : Room)).room s m (([.ref a0, .ref q1] : List Value).toArray) below meth c H locs 0 0 (MQ below (va_Qv (fun (_ : Unit) => True) (fun _ t => rc_W Y sh rf σ' t.heap) (rc_A sh s.heap.size)) ([.ref a0, .ref q1] : List Value).toArray s 0 0 (rc_A sh s.heap.size)) (F0 m 27 ls []) := by
    intro r1 hr1 K hKK n
    induction n with
    | zero =>
      intro v2 σ H locs ls hm
      rw [f_X1_copy_27] at hm
      cases hm
    | succ n ih =>
      intro v2 σ H locs ls hm hW hS hl
      rw [f_X1_copy_27] at hm
      refine lv_iload_n hx hb dX1_copy_27 rfl (lv_at hl 2 rfl) ?_
      refine lv_bipush (v := 8) hx hb dX1_copy_28 (by decide) ?_
      refine lv_icmp_ge (tgt := 54) hx hb dX1_copy_30 (by decide) (fun c_12 => ?_) (fun c_12 => ?_)
      · replace hm := rc_t hm c_12
        exact hKK v2 σ _ _ _ hm hW hS (lv_sub hl [0, 1] rfl)
      · replace hm := rc_f hm c_12
        refine lv_aload_n hx hb dX1_copy_33 rfl (lv_at hl 0 rfl) ?_
        refine rg_2_1 hx hb hts hown hK hW h0 tw_1_144 dX1_copy_34 ?_
        refine lv_iload_n hx hb dX1_copy_37 rfl (lv_at hl 2 rfl) ?_
        have hi_8 := (rc_ix hm).1
        replace hm := (rc_ix hm).2
        refine rc_aald hx hb hK hW (rc_t_2_1 hT h0) (by decide) rfl 4 rfl hi_8 dX1_copy_38 ?_
        refine lv_aload_n hx hb dX1_copy_39 rfl (lv_at hl 1 rfl) ?_
        refine rg_2_1 hx hb hts hown hK hW hr1 tw_1_144 dX1_copy_40 ?_
        refine lv_iload_n hx hb dX1_copy_43 rfl (lv_at hl 2 rfl) ?_
        have hi_9 := (rc_ix hm).1
        replace hm := (rc_ix hm).2
        refine rc_aald hx hb hK hW (rc_t_2_1 hT hr1) (by decide) rfl 4 rfl hi_9 dX1_copy_44 ?_
        obtain ⟨w_10, σ_10, hc_10, hm0⟩ := rc_bd_inv hm
        clear hm
        refine rc_cv hS (va_runV (As := [.ref (rf (rf r1 1) v2.toNatClampNeg)]) (rest := []) ⟨hx, hb, hml, hown, hts⟩ (k_X0_copy l hT (rf (rf a0 1) v2.toNatClampNeg) (rf (rf r1 1) v2.toNatClampNeg) (rc_t_25 hT (rc_t_2_1 hT h0) hi_8) (rc_t_25 hT (rc_t_2_1 hT hr1) hi_9) H.size _ _ _ hc_10) (cwV 1 hts (rc_gV tw_2_132 tw_2_133 tw_2_134 tw_1_5 tw_2_135) rfl rfl rfl (by decide +kernel) ⟨Nat.le_of_ble_eq_true rfl, Nat.le_of_ble_eq_true rfl⟩) (rc_preV hT hW hK hE hS (rc_t_25 hT (rc_t_2_1 hT h0) hi_8) (by decide) rfl (q := (RX0, TX0, 6)) rfl [.ref (rf (rf r1 1) v2.toNatClampNeg)]) rfl rfl hl.1 rfl (lv_room (Nat.le_of_ble_eq_true rfl)) dX1_copy_45 ⟨Nat.le_of_ble_eq_true rfl, Nat.le_of_ble_eq_true rfl⟩) (fun H locs hW hS => ?_)
        have hm := hm0
        clear hm0 hc_10
        obtain ⟨v2_11, ev⟩ : ∃ y : Int32, y = (v2 + 1) := ⟨_, rfl⟩
        replace hm := rc_lt_at hm ev
        refine lv_iinc (v := v2_11) (lv' := [(2, .int v2_11), (0, .ref a0), (1, .ref r1)]) hx hb dX1_copy_48 hl (k := 2) rfl (by rw [ev]; rfl) (by decide) rfl (fun ls hl => ?_)
        clear ev
        refine lv_goto (tgt := 27) hx hb dX1_copy_51 (by decide) ?_
        exact ih v2_11 σ_10 _ _ _ hm hW hS (lv_sub hl [1, 2, 0] rfl)
  have lp_56 : ∀ (r1 : Nat) (hr1 : sh r1 = 2) (K : Int32 → rc_S → Option (Unit × rc_S)) (hKK : ∀ (v2 : Int32) (σ : rc_S) (H : Heap) (locs : List Loc) (ls : Array Slot), K v2 σ = some (r, σ') → rc_W Y sh rf σ H → va_S (rc_A sh s.heap.size) s.heap H locs → lv_has ls 3 [(0, .ref a0), (1, .ref r1)] → W p l e (headSpec (Cond.code yX1_copy cX1_copy 3 none :: rc_big) ({ frames := 2, cells := 0, slots := 0, locals := 42 } : Room)).room s m (([.ref a0, .ref q1] : List Value).toArray) below meth c H locs 0 0 (MQ below (va_Qv (fun (_ : Unit) => True) (fun _ t => rc_W Y sh rf σ' t.heap) (rc_A sh s.heap.size)) ([.ref a0, .ref q1] : List Value).toArray s 0 0 (rc_A sh s.heap.size)) (F0 m 83 ls [])) (n : Nat) (v2 : Int32) (σ : rc_S) (H : Heap) (locs : List Loc) (ls : Array Slot), f_X1_copy_56 rf a0 r1 K n v2 σ = some (r, σ') → rc_W Y sh rf σ H → va_S (rc_A sh s.heap.size) s.heap H locs → lv_has ls 3 [(0, .ref a0), (1, .ref r1), (2, .int v2)] → W p l e (headSpec (Cond.code yX1_copy cX1_copy 3 none :: rc_big) ({ frames := 2, cells := 0, slots := 0, locals := 42 } : Room)).room s m (([.ref a0, .ref q1] : List Value).toArray) below meth c H locs 0 0 (MQ below (va_Qv (fun (_ : Unit) => True) (fun _ t => rc_W Y sh rf σ' t.heap) (rc_A sh s.heap.size)) ([.ref a0, .ref q1] : List Value).toArray s 0 0 (rc_A sh s.heap.size)) (F0 m 56 ls []) := by
    intro r1 hr1 K hKK n
    induction n with
    | zero =>
      intro v2 σ H locs ls hm
      rw [f_X1_copy_56] at hm
      cases hm
    | succ n ih =>
      intro v2 σ H locs ls hm hW hS hl
      rw [f_X1_copy_56] at hm
      refine lv_iload_n hx hb dX1_copy_56 rfl (lv_at hl 2 rfl) ?_
      refine lv_bipush (v := 12) hx hb dX1_copy_57 (by decide) ?_
      refine lv_icmp_ge (tgt := 83) hx hb dX1_copy_59 (by decide) (fun c_19 => ?_) (fun c_19 => ?_)
      · replace hm := rc_t hm c_19
        exact hKK v2 σ _ _ _ hm hW hS (lv_sub hl [0, 1] rfl)
      · replace hm := rc_f hm c_19
        refine lv_aload_n hx hb dX1_copy_62 rfl (lv_at hl 0 rfl) ?_
        refine rg_2_4 hx hb hts hown hK hW h0 tw_1_153 dX1_copy_63 ?_
        refine lv_iload_n hx hb dX1_copy_66 rfl (lv_at hl 2 rfl) ?_
        have hi_15 := (rc_ix hm).1
        replace hm := (rc_ix hm).2
        refine rc_aald hx hb hK hW (rc_t_2_4 hT h0) (by decide) rfl 6 rfl hi_15 dX1_copy_67 ?_
        refine lv_aload_n hx hb dX1_copy_68 rfl (lv_at hl 1 rfl) ?_
        refine rg_2_4 hx hb hts hown hK hW hr1 tw_1_153 dX1_copy_69 ?_
        refine lv_iload_n hx hb dX1_copy_72 rfl (lv_at hl 2 rfl) ?_
        have hi_16 := (rc_ix hm).1
        replace hm := (rc_ix hm).2
        refine rc_aald hx hb hK hW (rc_t_2_4 hT hr1) (by decide) rfl 6 rfl hi_16 dX1_copy_73 ?_
        obtain ⟨w_17, σ_17, hc_17, hm0⟩ := rc_bd_inv hm
        clear hm
        refine rc_cv hS (va_runV (As := [.ref (rf (rf r1 4) v2.toNatClampNeg)]) (rest := []) ⟨hx, hb, hml, hown, hts⟩ (k_X4_copy l hT (rf (rf a0 4) v2.toNatClampNeg) (rf (rf r1 4) v2.toNatClampNeg) (rc_t_27 hT (rc_t_2_4 hT h0) hi_15) (rc_t_27 hT (rc_t_2_4 hT hr1) hi_16) H.size _ _ _ hc_17) (cwV 1 hts (rc_gV tw_2_140 tw_2_141 tw_2_142 tw_1_6 tw_2_143) rfl rfl rfl (by decide +kernel) ⟨Nat.le_of_ble_eq_true rfl, Nat.le_of_ble_eq_true rfl⟩) (rc_preV hT hW hK hE hS (rc_t_27 hT (rc_t_2_4 hT h0) hi_15) (by decide) rfl (q := (RX4, TX4, 3)) rfl [.ref (rf (rf r1 4) v2.toNatClampNeg)]) rfl rfl hl.1 rfl (lv_room (Nat.le_of_ble_eq_true rfl)) dX1_copy_74 ⟨Nat.le_of_ble_eq_true rfl, Nat.le_of_ble_eq_true rfl⟩) (fun H locs hW hS => ?_)
        have hm := hm0
        clear hm0 hc_17
        obtain ⟨v2_18, ev⟩ : ∃ y : Int32, y = (v2 + 1) := ⟨_, rfl⟩
        replace hm := rc_lt_at hm ev
        refine lv_iinc (v := v2_18) (lv' := [(2, .int v2_18), (0, .ref a0), (1, .ref r1)]) hx hb dX1_copy_77 hl (k := 2) rfl (by rw [ev]; rfl) (by decide) rfl (fun ls hl => ?_)
        clear ev
        refine lv_goto (tgt := 56) hx hb dX1_copy_80 (by decide) ?_
        exact ih v2_18 σ_17 _ _ _ hm hW hS (lv_sub hl [1, 2, 0] rfl)
  unfold f_X1_copy at hm
  refine lv_iconst (v := 0) hx hb dX1_copy_0 (by decide) ?_
  refine lv_istore_n (lv' := [(2, .int (0 : Int32)), (0, .ref a0), (1, .ref q1)]) hx hb dX1_copy_1 rfl hl (by decide) rfl (fun ls hl => ?_)
  refine lp_2 q1 hq1 _ (fun v2_6 σ_7 H locs ls hm hW hS hl => ?_) rc_fu (0 : Int32) σ _ _ _ hm hW hS (lv_sub hl [1, 2, 0] rfl)
  refine lv_iconst (v := 0) hx hb dX1_copy_25 (by decide) ?_
  refine lv_istore_n (lv' := [(2, .int (0 : Int32)), (0, .ref a0), (1, .ref q1)]) hx hb dX1_copy_26 rfl hl (by decide) rfl (fun ls hl => ?_)
  refine lp_27 q1 hq1 _ (fun v2_13 σ_14 H locs ls hm hW hS hl => ?_) rc_fu (0 : Int32) σ_7 _ _ _ hm hW hS (lv_sub hl [1, 2, 0] rfl)
  refine lv_iconst (v := 0) hx hb dX1_copy_54 (by decide) ?_
  refine lv_istore_n (lv' := [(2, .int (0 : Int32)), (0, .ref a0), (1, .ref q1)]) hx hb dX1_copy_55 rfl hl (by decide) rfl (fun ls hl => ?_)
  refine lp_56 q1 hq1 _ (fun v2_20 σ_21 H locs ls hm hW hS hl => ?_) rc_fu (0 : Int32) σ_14 _ _ _ hm hW hS (lv_sub hl [1, 2, 0] rfl)
  refine lv_aload_n hx hb dX1_copy_83 rfl (lv_at hl 0 rfl) ?_
  refine rg_2_3 hx hb hts hown hK hW h0 tw_1_150 dX1_copy_84 ?_
  refine lv_aload_n hx hb dX1_copy_87 rfl (lv_at hl 1 rfl) ?_
  refine rg_2_3 hx hb hts hown hK hW hq1 tw_1_150 dX1_copy_88 ?_
  obtain ⟨w_22, σ_22, hc_22, hm0⟩ := rc_bd_inv hm
  clear hm
  refine rc_cv hS (va_runV (As := [.ref (rf q1 3)]) (rest := []) ⟨hx, hb, hml, hown, hts⟩ (k_X3_copy l hT (rf a0 3) (rf q1 3) (rc_t_2_3 hT h0) (rc_t_2_3 hT hq1) H.size _ _ _ hc_22) (cwV 1 hts (rc_gV tw_2_144 tw_2_145 tw_2_146 tw_1_4 tw_2_147) rfl rfl rfl (by decide +kernel) ⟨Nat.le_of_ble_eq_true rfl, Nat.le_of_ble_eq_true rfl⟩) (rc_preV hT hW hK hE hS (rc_t_2_3 hT h0) (by decide) rfl (q := (RX3, TX3, 3)) rfl [.ref (rf q1 3)]) rfl rfl hl.1 rfl (lv_room (Nat.le_of_ble_eq_true rfl)) dX1_copy_91 ⟨Nat.le_of_ble_eq_true rfl, Nat.le_of_ble_eq_true rfl⟩) (fun H locs hW hS => ?_)
  have hm := hm0
  clear hm0 hc_22
  refine lv_aload_n hx hb dX1_copy_94 rfl (lv_at hl 0 rfl) ?_
  refine lv_aload_n hx hb dX1_copy_95 rfl (lv_at hl 1 rfl) ?_
  obtain ⟨w_23, σ_23, hc_23, hm0⟩ := rc_bd_inv hm
  clear hm
  refine rc_cv hS (va_runV (As := [.ref q1]) (rest := []) ⟨hx, hb, hml, hown, hts⟩ (k_X1_copyCounts l hT a0 q1 h0 hq1 H.size _ _ _ hc_23) (cwV 1 hts (rc_gV tw_2_148 tw_2_150 tw_p_0 tw_1_3 tw_2_151) rfl rfl rfl (by decide +kernel) ⟨Nat.le_of_ble_eq_true rfl, Nat.le_of_ble_eq_true rfl⟩) (rc_preV hT hW hK hE hS h0 (by decide) rfl (q := (RX1, TX1, 14)) rfl [.ref q1]) rfl rfl hl.1 rfl (lv_room (Nat.le_of_ble_eq_true rfl)) dX1_copy_96 ⟨Nat.le_of_ble_eq_true rfl, Nat.le_of_ble_eq_true rfl⟩) (fun H locs hW hS => ?_)
  have hm := hm0
  clear hm0 hc_23
  exact rc_evret hx hb hr hlocks hW hS (Nat.le_of_ble_eq_true rfl) (Nat.le_of_ble_eq_true rfl) hm dX1_copy_99
set_option maxHeartbeats 4000000 in
set_option maxRecDepth 100000 in
theorem k_X1_dropBarrel (l : Launch) {Y : rc_Y} {sh : Nat → Nat} {rf : rc_F} (hT : rc_T Y sh rf) (a0 : Nat) (u1 : Int32) (h0 : sh a0 = 2) (sz : Nat) (σ σ' : rc_S) (r : Unit) (hm : f_X1_dropBarrel rf a0 u1 σ = some (r, σ')) : Met l yX1_dropBarrel (Cond.code yX1_dropBarrel cX1_dropBarrel 3 none :: rc_big) ({ frames := 2, cells := 0, slots := 0, locals := 42 } : Room) (rc_P Y sh rf σ sz [.ref a0, .int u1]) (va_Qv (fun (_ : Unit) => True) (fun _ t => rc_W Y sh rf σ' t.heap) (rc_A sh sz)) 0 0 (rc_A sh sz) := by
  refine Met.ofW (cc := cX1_dropBarrel) (maxL := 3) (ret := none) (by decide +kernel) rfl ?_
  intro p e s m args below meth c s₁ B hml hv
  obtain ⟨rfl, hsz, hW, hK, hE⟩ := hv
  have hx := B.exec
  have hb := B.bytes
  have hr := B.returns
  have hts : ∀ w ∈ rc_big, w.before _ s = true := fun w h => atoms_spec (ws := Cond.code yX1_dropBarrel cX1_dropBarrel 3 none :: rc_big) B.pre w (List.mem_cons_of_mem _ h)
  have hown : s.vm.findClass RX1 = some m.cls := findClass_of_methodNamed B.named
  have hlocks := B.notSynchronized
  clear B
  subst hsz
  have hS : va_S (rc_A sh s.heap.size) s.heap s.heap [] := va_S.rf
  have hl := lv_entry ([.ref a0, .int u1]) (n := 3) (Nat.le_of_ble_eq_true rfl)
  rw [lg_entry_eq]
  generalize (lg_sl ([.ref a0, .int u1]) ++ List.replicate (3 - (lg_sl ([.ref a0, .int u1])).length) Slot.unset).toArray = ls at hl ⊢
  have hl : lv_has ls 3 [(0, .ref a0), (1, .int u1)] := hl
  have lp_2 : ∀ (K : Int32 → rc_S → Option (Unit × rc_S)) (hKK : ∀ (v2 : Int32) (σ : rc_S) (H : Heap) (locs : List Loc) (ls : Array Slot), K v2 σ = some (r, σ') → rc_W Y sh rf σ H → va_S (rc_A sh s.heap.size) s.heap H locs → lv_has ls 3 [(0, .ref a0)] → W p l e (headSpec (Cond.code yX1_dropBarrel cX1_dropBarrel 3 none :: rc_big) ({ frames := 2, cells := 0, slots := 0, locals := 42 } : Room)).room s m (([.ref a0, .int u1] : List Value).toArray) below meth c H locs 0 0 (MQ below (va_Qv (fun (_ : Unit) => True) (fun _ t => rc_W Y sh rf σ' t.heap) (rc_A sh s.heap.size)) ([.ref a0, .int u1] : List Value).toArray s 0 0 (rc_A sh s.heap.size)) (F0 m 35 ls [])) (n : Nat) (v2 : Int32) (σ : rc_S) (H : Heap) (locs : List Loc) (ls : Array Slot), f_X1_dropBarrel_2 rf a0 K n v2 σ = some (r, σ') → rc_W Y sh rf σ H → va_S (rc_A sh s.heap.size) s.heap H locs → lv_has ls 3 [(0, .ref a0), (2, .int v2)] → W p l e (headSpec (Cond.code yX1_dropBarrel cX1_dropBarrel 3 none :: rc_big) ({ frames := 2, cells := 0, slots := 0, locals := 42 } : Room)).room s m (([.ref a0, .int u1] : List Value).toArray) below meth c H locs 0 0 (MQ below (va_Qv (fun (_ : Unit) => True) (fun _ t => rc_W Y sh rf σ' t.heap) (rc_A sh s.heap.size)) ([.ref a0, .int u1] : List Value).toArray s 0 0 (rc_A sh s.heap.size)) (F0 m 2 ls []) := by
    intro  K hKK n
    induction n with
    | zero =>
      intro v2 σ H locs ls hm
      rw [f_X1_dropBarrel_2] at hm
      cases hm
    | succ n ih =>
      intro v2 σ H locs ls hm hW hS hl
      rw [f_X1_dropBarrel_2] at hm
      refine lv_iload_n hx hb dX1_dropBarrel_2 rfl (lv_at hl 1 rfl) ?_
      refine lv_iconst (v := 1) hx hb dX1_dropBarrel_3 (by decide) ?_
      refine lv_iadd hx hb dX1_dropBarrel_4 ?_
      refine lv_aload_n hx hb dX1_dropBarrel_5 rfl (lv_at hl 0 rfl) ?_
      refine rg_2_2 hx hb hts hown hK hW h0 tw_1_147 dX1_dropBarrel_6 ?_
      refine lv_icmp_ge (tgt := 35) hx hb dX1_dropBarrel_9 (by decide) (fun c_5 => ?_) (fun c_5 => ?_)
      · replace hm := rc_t hm c_5
        exact hKK v2 σ _ _ _ hm hW hS (lv_sub hl [0] rfl)
      · replace hm := rc_f hm c_5
        refine lv_aload_n hx hb dX1_dropBarrel_12 rfl (lv_at hl 0 rfl) ?_
        refine rg_2_1 hx hb hts hown hK hW h0 tw_1_144 dX1_dropBarrel_13 ?_
        refine lv_iload_n hx hb dX1_dropBarrel_16 rfl (lv_at hl 1 rfl) ?_
        have hi_1 := (rc_ix hm).1
        replace hm := (rc_ix hm).2
        refine rc_aald hx hb hK hW (rc_t_2_1 hT h0) (by decide) rfl 4 rfl hi_1 dX1_dropBarrel_17 ?_
        refine lv_aload_n hx hb dX1_dropBarrel_18 rfl (lv_at hl 0 rfl) ?_
        refine rg_2_1 hx hb hts hown hK hW h0 tw_1_144 dX1_dropBarrel_19 ?_
        refine lv_iload_n hx hb dX1_dropBarrel_22 rfl (lv_at hl 1 rfl) ?_
        refine lv_iconst (v := 1) hx hb dX1_dropBarrel_23 (by decide) ?_
        refine lv_iadd hx hb dX1_dropBarrel_24 ?_
        have hi_2 := (rc_ix hm).1
        replace hm := (rc_ix hm).2
        refine rc_aald hx hb hK hW (rc_t_2_1 hT h0) (by decide) rfl 4 rfl hi_2 dX1_dropBarrel_25 ?_
        obtain ⟨w_3, σ_3, hc_3, hm0⟩ := rc_bd_inv hm
        clear hm
        refine rc_cv hS (va_runV (As := [.ref (rf (rf a0 1) (v2 + (1 : Int32)).toNatClampNeg)]) (rest := []) ⟨hx, hb, hml, hown, hts⟩ (k_X0_copy l hT (rf (rf a0 1) v2.toNatClampNeg) (rf (rf a0 1) (v2 + (1 : Int32)).toNatClampNeg) (rc_t_25 hT (rc_t_2_1 hT h0) hi_1) (rc_t_25 hT (rc_t_2_1 hT h0) hi_2) H.size _ _ _ hc_3) (cwV 1 hts (rc_gV tw_2_132 tw_2_133 tw_2_134 tw_1_5 tw_2_135) rfl rfl rfl (by decide +kernel) ⟨Nat.le_of_ble_eq_true rfl, Nat.le_of_ble_eq_true rfl⟩) (rc_preV hT hW hK hE hS (rc_t_25 hT (rc_t_2_1 hT h0) hi_1) (by decide) rfl (q := (RX0, TX0, 6)) rfl [.ref (rf (rf a0 1) (v2 + (1 : Int32)).toNatClampNeg)]) rfl rfl hl.1 rfl (lv_room (Nat.le_of_ble_eq_true rfl)) dX1_dropBarrel_26 ⟨Nat.le_of_ble_eq_true rfl, Nat.le_of_ble_eq_true rfl⟩) (fun H locs hW hS => ?_)
        have hm := hm0
        clear hm0 hc_3
        obtain ⟨v2_4, ev⟩ : ∃ y : Int32, y = (v2 + 1) := ⟨_, rfl⟩
        replace hm := rc_lt_at hm ev
        refine lv_iinc (v := v2_4) (lv' := [(2, .int v2_4), (0, .ref a0)]) hx hb dX1_dropBarrel_29 hl (k := 1) rfl (by rw [ev]; rfl) (by decide) rfl (fun ls hl => ?_)
        clear ev
        refine lv_goto (tgt := 2) hx hb dX1_dropBarrel_32 (by decide) ?_
        exact ih v2_4 σ_3 _ _ _ hm hW hS (lv_sub hl [1, 0] rfl)
  unfold f_X1_dropBarrel at hm
  refine lv_iload_n hx hb dX1_dropBarrel_0 rfl (lv_at hl 1 rfl) ?_
  refine lv_istore_n (lv' := [(2, .int u1), (0, .ref a0), (1, .int u1)]) hx hb dX1_dropBarrel_1 rfl hl (by decide) rfl (fun ls hl => ?_)
  refine lp_2 _ (fun v2_6 σ_7 H locs ls hm hW hS hl => ?_) rc_fu u1 σ _ _ _ hm hW hS (lv_sub hl [1, 0] rfl)
  refine lv_aload_n hx hb dX1_dropBarrel_35 rfl (lv_at hl 0 rfl) ?_
  refine lv_dup hx hb dX1_dropBarrel_36 rfl ?_
  refine rg_2_2 hx hb hts hown hK hW h0 tw_1_147 dX1_dropBarrel_37 ?_
  refine lv_iconst (v := 1) hx hb dX1_dropBarrel_40 (by decide) ?_
  refine lv_isub hx hb dX1_dropBarrel_41 ?_
  refine rp_2_2 hx hb hts hown hK hW hS h0 tw_1_147 dX1_dropBarrel_42 (fun σ_8 H locs eσ hW hS => ?_)
  replace hm := rc_lt_at hm eσ
  clear eσ
  exact rc_evret hx hb hr hlocks hW hS (Nat.le_of_ble_eq_true rfl) (Nat.le_of_ble_eq_true rfl) hm dX1_dropBarrel_45
set_option maxHeartbeats 4000000 in
set_option maxRecDepth 100000 in
theorem k_X1_litresIntoBarrels (l : Launch) {Y : rc_Y} {sh : Nat → Nat} {rf : rc_F} (hT : rc_T Y sh rf) (a0 : Nat) (u1 : Int32) (h0 : sh a0 = 2) (sz : Nat) (σ σ' : rc_S) (r : Int32) (hm : f_X1_litresIntoBarrels rf a0 u1 σ = some (r, σ')) : Met l yX1_litresIntoBarrels (Cond.code yX1_litresIntoBarrels cX1_litresIntoBarrels 4 (some .int) :: rc_big) ({ frames := 2, cells := 0, slots := 0, locals := 43 } : Room) (rc_P Y sh rf σ sz [.ref a0, .int u1]) (va_Qi (fun (r' : Int32) (_ : Unit) => r' = r) (fun _ t => rc_W Y sh rf σ' t.heap) (rc_A sh sz)) 0 0 (rc_A sh sz) := by
  refine Met.ofW (cc := cX1_litresIntoBarrels) (maxL := 4) (ret := (some .int)) (by decide +kernel) rfl ?_
  intro p e s m args below meth c s₁ B hml hv
  obtain ⟨rfl, hsz, hW, hK, hE⟩ := hv
  have hx := B.exec
  have hb := B.bytes
  have hr := B.returns
  have hts : ∀ w ∈ rc_big, w.before _ s = true := fun w h => atoms_spec (ws := Cond.code yX1_litresIntoBarrels cX1_litresIntoBarrels 4 (some .int) :: rc_big) B.pre w (List.mem_cons_of_mem _ h)
  have hown : s.vm.findClass RX1 = some m.cls := findClass_of_methodNamed B.named
  have hlocks := B.notSynchronized
  clear B
  subst hsz
  have hS : va_S (rc_A sh s.heap.size) s.heap s.heap [] := va_S.rf
  have hl := lv_entry ([.ref a0, .int u1]) (n := 4) (Nat.le_of_ble_eq_true rfl)
  rw [lg_entry_eq]
  generalize (lg_sl ([.ref a0, .int u1]) ++ List.replicate (4 - (lg_sl ([.ref a0, .int u1])).length) Slot.unset).toArray = ls at hl ⊢
  have hl : lv_has ls 4 [(0, .ref a0), (1, .int u1)] := hl
  have lp_4 : ∀ (v1 : Int32) (K : Int32 → Int32 → rc_S → Option (Int32 × rc_S)) (hKK : ∀ (v2 v3 : Int32) (σ : rc_S) (H : Heap) (locs : List Loc) (ls : Array Slot), K v2 v3 σ = some (r, σ') → rc_W Y sh rf σ H → va_S (rc_A sh s.heap.size) s.heap H locs → lv_has ls 4 [(2, .int v2)] → W p l e (headSpec (Cond.code yX1_litresIntoBarrels cX1_litresIntoBarrels 4 (some .int) :: rc_big) ({ frames := 2, cells := 0, slots := 0, locals := 43 } : Room)).room s m (([.ref a0, .int u1] : List Value).toArray) below meth c H locs 0 0 (MQ below (va_Qi (fun (r' : Int32) (_ : Unit) => r' = r) (fun _ t => rc_W Y sh rf σ' t.heap) (rc_A sh s.heap.size)) ([.ref a0, .int u1] : List Value).toArray s 0 0 (rc_A sh s.heap.size)) (F0 m 34 ls [])) (n : Nat) (v2 v3 : Int32) (σ : rc_S) (H : Heap) (locs : List Loc) (ls : Array Slot), f_X1_litresIntoBarrels_4 rf a0 v1 K n v2 v3 σ = some (r, σ') → rc_W Y sh rf σ H → va_S (rc_A sh s.heap.size) s.heap H locs → lv_has ls 4 [(0, .ref a0), (1, .int v1), (2, .int v2), (3, .int v3)] → W p l e (headSpec (Cond.code yX1_litresIntoBarrels cX1_litresIntoBarrels 4 (some .int) :: rc_big) ({ frames := 2, cells := 0, slots := 0, locals := 43 } : Room)).room s m (([.ref a0, .int u1] : List Value).toArray) below meth c H locs 0 0 (MQ below (va_Qi (fun (r' : Int32) (_ : Unit) => r' = r) (fun _ t => rc_W Y sh rf σ' t.heap) (rc_A sh s.heap.size)) ([.ref a0, .int u1] : List Value).toArray s 0 0 (rc_A sh s.heap.size)) (F0 m 4 ls []) := by
    intro v1 K hKK n
    induction n with
    | zero =>
      intro v2 v3 σ H locs ls hm
      rw [f_X1_litresIntoBarrels_4] at hm
      cases hm
    | succ n ih =>
      intro v2 v3 σ H locs ls hm hW hS hl
      rw [f_X1_litresIntoBarrels_4] at hm
      refine lv_iload_n hx hb dX1_litresIntoBarrels_4 rfl (lv_at hl 3 rfl) ?_
      refine lv_iconst (v := 4) hx hb dX1_litresIntoBarrels_5 (by decide) ?_
      refine lv_icmp_ge (tgt := 34) hx hb dX1_litresIntoBarrels_6 (by decide) (fun c_5 => ?_) (fun c_5 => ?_)
      · replace hm := rc_t hm c_5
        exact hKK v2 v3 σ _ _ _ hm hW hS (lv_sub hl [2] rfl)
      · replace hm := rc_f hm c_5
        refine lv_iload_n hx hb dX1_litresIntoBarrels_9 rfl (lv_at hl 2 rfl) ?_
        refine lv_iload_n hx hb dX1_litresIntoBarrels_10 rfl (lv_at hl 3 rfl) ?_
        refine lv_iload_n hx hb dX1_litresIntoBarrels_11 rfl (lv_at hl 1 rfl) ?_
        obtain ⟨w_1, σ_1, hc_1, hm0⟩ := rc_bd_inv hm
        clear hm
        refine rc_ci hS (va_runSN (As := [.int v3, .int v1]) (rest := [.int v2]) ⟨hx, hb, hml, hown, hts⟩ (k_X8_litresOnRoof l hT v3 v1  H.size _ _ _ hc_1) ⟨va_cnB 2 hts (rc_gI tw_4_94) rfl rfl rfl (rc_E_nw hE _ nw_6_9) (hts _ tw_1_1) (by decide +kernel) ⟨Nat.le_of_ble_eq_true rfl, Nat.le_of_ble_eq_true rfl⟩, hts _ tw_4_93, trivial⟩ (rc_preS hT hW hK hE hS [.int v3, .int v1]) rfl rfl hl.1 rfl (lv_room (Nat.le_of_ble_eq_true rfl)) dX1_litresIntoBarrels_12 ⟨Nat.le_of_ble_eq_true rfl, Nat.le_of_ble_eq_true rfl⟩) (fun H locs hW hS => ?_)
        have hm := hm0
        clear hm0 hc_1
        refine lv_bipush (v := 20) hx hb dX1_litresIntoBarrels_15 (by decide) ?_
        refine lv_aload_n hx hb dX1_litresIntoBarrels_17 rfl (lv_at hl 0 rfl) ?_
        refine lv_iload_n hx hb dX1_litresIntoBarrels_18 rfl (lv_at hl 3 rfl) ?_
        obtain ⟨w_2, σ_2, hc_2, hm0⟩ := rc_bd_inv hm
        clear hm
        refine rc_ci hS (va_runV (As := [.int v3]) (rest := [.int (20 : Int32), .int w_1, .int v2]) ⟨hx, hb, hml, hown, hts⟩ (k_X1_emptyUnder l hT a0 v3 h0 H.size _ _ _ hc_2) (cwV 1 hts (rc_gV tw_6_10 tw_5_116 tw_5_117 tw_1_3 tw_5_118) rfl rfl rfl (by decide +kernel) ⟨Nat.le_of_ble_eq_true rfl, Nat.le_of_ble_eq_true rfl⟩) (rc_preV hT hW hK hE hS h0 (by decide) rfl (q := (RX1, TX1, 14)) rfl [.int v3]) rfl rfl hl.1 rfl (lv_room (Nat.le_of_ble_eq_true rfl)) dX1_litresIntoBarrels_19 ⟨Nat.le_of_ble_eq_true rfl, Nat.le_of_ble_eq_true rfl⟩) (fun H locs hW hS => ?_)
        have hm := hm0
        clear hm0 hc_2
        refine lv_imul hx hb dX1_litresIntoBarrels_22 ?_
        refine va_mmin hx hb (hml.trans hl.1.symm) hown (hts _ tw_5_224) (hts _ tw_2_157) (hts _ tw_1_15) (hts _ tw_2_158) (Nat.le_of_ble_eq_true rfl) (Nat.le_of_ble_eq_true rfl) (Nat.le_of_ble_eq_true rfl) (Nat.le_of_ble_eq_true rfl) dX1_litresIntoBarrels_23 ?_
        refine lv_iadd hx hb dX1_litresIntoBarrels_26 ?_
        refine lv_topi (fun v2_3 ev => ?_)
        replace hm := rc_lt_at hm ev
        clear ev
        refine lv_istore_n (lv' := [(2, .int v2_3), (0, .ref a0), (1, .int v1), (3, .int v3)]) hx hb dX1_litresIntoBarrels_27 rfl hl (by decide) rfl (fun ls hl => ?_)
        obtain ⟨v3_4, ev⟩ : ∃ y : Int32, y = (v3 + 1) := ⟨_, rfl⟩
        replace hm := rc_lt_at hm ev
        refine lv_iinc (v := v3_4) (lv' := [(3, .int v3_4), (2, .int v2_3), (0, .ref a0), (1, .int v1)]) hx hb dX1_litresIntoBarrels_28 hl (k := 3) rfl (by rw [ev]; rfl) (by decide) rfl (fun ls hl => ?_)
        clear ev
        refine lv_goto (tgt := 4) hx hb dX1_litresIntoBarrels_31 (by decide) ?_
        exact ih v2_3 v3_4 σ_2 _ _ _ hm hW hS (lv_sub hl [2, 3, 1, 0] rfl)
  unfold f_X1_litresIntoBarrels at hm
  refine lv_iconst (v := 0) hx hb dX1_litresIntoBarrels_0 (by decide) ?_
  refine lv_istore_n (lv' := [(2, .int (0 : Int32)), (0, .ref a0), (1, .int u1)]) hx hb dX1_litresIntoBarrels_1 rfl hl (by decide) rfl (fun ls hl => ?_)
  refine lv_iconst (v := 0) hx hb dX1_litresIntoBarrels_2 (by decide) ?_
  refine lv_istore_n (lv' := [(3, .int (0 : Int32)), (2, .int (0 : Int32)), (0, .ref a0), (1, .int u1)]) hx hb dX1_litresIntoBarrels_3 rfl hl (by decide) rfl (fun ls hl => ?_)
  refine lp_4 u1 _ (fun v2_6 v3_7 σ_8 H locs ls hm hW hS hl => ?_) rc_fu (0 : Int32) (0 : Int32) σ _ _ _ hm hW hS (lv_sub hl [2, 3, 1, 0] rfl)
  refine lv_iload_n hx hb dX1_litresIntoBarrels_34 rfl (lv_at hl 0 rfl) ?_
  exact rc_eiret hx hb hr hlocks hW hS (Nat.le_of_ble_eq_true rfl) (Nat.le_of_ble_eq_true rfl) hm dX1_litresIntoBarrels_35
