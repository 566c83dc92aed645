def f_X7_letYearGoBy_10 (rf : rc_F) (a0 : Nat) (v1 : Int32) (K : Int32 → rc_S → Option (Int32 × rc_S)) : Nat → Int32 → rc_S → Option (Int32 × rc_S)
  | 0, _, _ => none
  | n + 1, v2, σ =>
    if (4 : Int32) ≤ v2 then
      K v2 σ
    else
      rc_ck (rc_in v2 4) <|
      rc_ck (rc_in v2 4) <|
      rc_lt (rc_up σ (rf (rf a0 0) 0) v2.toNatClampNeg (if (9 : Int32) < ((σ (rf (rf a0 0) 0) v2.toNatClampNeg) + (1 : Int32)) then (9 : Int32) else ((σ (rf (rf a0 0) 0) v2.toNatClampNeg) + (1 : Int32)))) fun σ_4 =>
      rc_lt (v2 + 1) fun v2_5 =>
      f_X7_letYearGoBy_10 rf a0 v1 K n v2_5 σ_4
def f_X7_letYearGoBy (rf : rc_F) (a0 : Nat) (σ : rc_S) : Option (Int32 × rc_S) :=
  rc_lt (σ (rf a0 0) 6) fun v1_1 =>
  f_X7_letYearGoBy_10 rf a0 v1_1 (fun v2_7 σ_8 =>
    rc_lt (rc_up σ_8 (rf a0 0) 6 (0 : Int32)) fun σ_9 =>
    rc_lt (rc_up σ_9 (rf a0 0) 7 ((σ_9 (rf a0 0) 7) + (1 : Int32))) fun σ_10 =>
    some (v1_1, σ_10)
  ) rc_fu (0 : Int32) σ
def f_X8_stormOf (rf : rc_F) (a0 : Nat) (u1 : Int32) (u2 : Int32) (σ : rc_S) : Option (Nat × Int32 × rc_S) :=
  rc_bd (f_X1_isLateStorm rf (rf a0 1) u1 σ) fun w_1 σ_1 =>
  if w_1 = 0 then
    some (4, (0 : Int32), σ_1)
  else
    rc_bd (f_X1_rainfallOf rf (rf a0 1) u1 σ_1) fun w_2 σ_2 =>
    if u2 = (0 : Int32) then
      some (0, (σ_2 w_2 0), σ_2)
    else
    if u2 = (1 : Int32) then
      some (0, (σ_2 w_2 1), σ_2)
    else
    if u2 = (2 : Int32) then
      some (0, (σ_2 w_2 2), σ_2)
    else
    some (3, (0 : Int32), σ_2)
def f_X8_isEven (rf : rc_F) (a0 : Nat) (σ : rc_S) : Option (Int32 × rc_S) :=
  rc_bd (f_X1_litresInBarrels rf (rf a0 1) σ) fun w_1 σ_1 =>
  if ((σ (rf a0 1) 8) + (σ (rf a0 1) 9)) = ((w_1 + (σ_1 (rf a0 1) 11)) + (σ_1 (rf a0 1) 12)) then
    some ((1 : Int32), σ_1)
  else
    some ((0 : Int32), σ_1)
def f_X8_append (rf : rc_F) (a0 : Nat) (u1 : Int32) (σ : rc_S) : Option (Nat × Int32 × rc_S) :=
  if (σ (rf a0 6) 1) < (60 : Int32) then
    rc_bd (f_X6_add rf (rf a0 6) u1 σ) fun _ σ_1 =>
    some (0, (σ_1 (rf a0 6) 1), σ_1)
  else
    some (5, (0 : Int32), σ)
def f_X8_panel_10 (rf : rc_F) (a0 : Nat) (K : Int32 → rc_S → Option (Int32 × rc_S)) : Nat → Int32 → rc_S → Option (Int32 × rc_S)
  | 0, _, _ => none
  | n + 1, v1, σ =>
    if (σ (rf (rf a0 1) 3) 2) ≤ v1 then
      K v1 σ
    else
      if v1 ≤ 0 then
        rc_ck (rc_in v1 4) <|
        if (σ (rf (rf (rf a0 1) 3) 1) v1.toNatClampNeg) = 0 then
          rc_bd (f_J4_append_cf468 rf (rf a0 8) (109 : Int32) σ) fun w_3 σ_3 =>
          rc_ck (rc_in v1 4) <|
          rc_bd (f_J4_append_bf812 rf w_3 (σ_3 (rf (rf (rf a0 1) 3) 0) v1.toNatClampNeg) σ_3) fun w_5 σ_5 =>
          rc_lt (v1 + 1) fun v1_6 =>
          f_X8_panel_10 rf a0 K n v1_6 σ_5
        else
          rc_bd (f_J4_append_cf468 rf (rf a0 8) (116 : Int32) σ) fun w_7 σ_7 =>
          rc_ck (rc_in v1 4) <|
          rc_bd (f_J4_append_bf812 rf w_7 (σ_7 (rf (rf (rf a0 1) 3) 0) v1.toNatClampNeg) σ_7) fun w_9 σ_9 =>
          rc_lt (v1 + 1) fun v1_10 =>
          f_X8_panel_10 rf a0 K n v1_10 σ_9
      else
        rc_bd (f_J4_append_cf468 rf (rf a0 8) (32 : Int32) σ) fun w_12 σ_12 =>
        rc_ck (rc_in v1 4) <|
        if (σ_12 (rf (rf (rf a0 1) 3) 1) v1.toNatClampNeg) = 0 then
          rc_bd (f_J4_append_cf468 rf (rf a0 8) (109 : Int32) σ_12) fun w_14 σ_14 =>
          rc_ck (rc_in v1 4) <|
          rc_bd (f_J4_append_bf812 rf w_14 (σ_14 (rf (rf (rf a0 1) 3) 0) v1.toNatClampNeg) σ_14) fun w_16 σ_16 =>
          rc_lt (v1 + 1) fun v1_17 =>
          f_X8_panel_10 rf a0 K n v1_17 σ_16
        else
          rc_bd (f_J4_append_cf468 rf (rf a0 8) (116 : Int32) σ_12) fun w_18 σ_18 =>
          rc_ck (rc_in v1 4) <|
          rc_bd (f_J4_append_bf812 rf w_18 (σ_18 (rf (rf (rf a0 1) 3) 0) v1.toNatClampNeg) σ_18) fun w_20 σ_20 =>
          rc_lt (v1 + 1) fun v1_21 =>
          f_X8_panel_10 rf a0 K n v1_21 σ_20
def f_X8_panel (rf : rc_F) (a0 : Nat) (σ : rc_S) : Option (Int32 × rc_S) :=
  rc_bd (f_J4_setLength_d00df rf (rf a0 8) (0 : Int32) σ) fun _ σ_1 =>
  f_X8_panel_10 rf a0 (fun v1_25 σ_26 =>
    rc_bd (f_J4_length_8abf5 rf (rf a0 8) σ_26) fun w_27 σ_27 =>
    some (w_27, σ_27)
  ) rc_fu (0 : Int32) σ_1
def f_X8_hailShare (rf : rc_F) (a0 : Nat) (σ : rc_S) : Option (Nat × UInt32 × rc_S) :=
  rc_bd (f_X1_litresInBarrels rf (rf a0 1) σ) fun w_1 σ_1 =>
  if w_1 = 0 then
    some (6, (0 : UInt32), σ_1)
  else
    rc_bd (f_X1_hailInBarrels rf (rf a0 1) σ_1) fun w_2 σ_2 =>
    rc_ck (decide ((FP.fdiv (FP.i2f w_2) (FP.i2f w_1)) &&& 0x7fffffff ≤ 0x7f800000)) <|
    some (0, FP.fdiv (FP.i2f w_2) (FP.i2f w_1), σ_2)
def f_X8_account (rf : rc_F) (a0 : Nat) (u1 : Int32) (σ : rc_S) : Option (Nat × Int32 × rc_S) :=
  if u1 = (0 : Int32) then
    some (0, (σ (rf a0 1) 2), σ)
  else
  if u1 = (1 : Int32) then
    rc_bd (f_X1_litresInBarrels rf (rf a0 1) σ) fun w_3 σ_3 =>
    some (0, w_3, σ_3)
  else
  if u1 = (2 : Int32) then
    some (0, (σ (rf a0 1) 6), σ)
  else
  if u1 = (3 : Int32) then
    some (0, (σ (rf (rf a0 1) 3) 2), σ)
  else
  if u1 = (4 : Int32) then
    some (0, (σ (rf a0 1) 7), σ)
  else
  if u1 = (5 : Int32) then
    some (0, (σ (rf a0 1) 5), σ)
  else
  if u1 = (6 : Int32) then
    some (0, (σ (rf a0 1) 10), σ)
  else
  if u1 = (7 : Int32) then
    some (0, (σ (rf a0 1) 11), σ)
  else
  if u1 = (8 : Int32) then
    some (0, (σ (rf a0 1) 12), σ)
  else
  if u1 = (9 : Int32) then
    some (0, (σ (rf a0 1) 13), σ)
  else
  if u1 = (10 : Int32) then
    some (0, (σ (rf a0 5) 2), σ)
  else
  if u1 = (11 : Int32) then
    some (0, (σ (rf a0 6) 1), σ)
  else
  some (3, (0 : Int32), σ)
def f_X8_kept (rf : rc_F) (a0 : Nat) (u1 : Int32) (σ : rc_S) : Option (Nat × Int32 × rc_S) :=
  if u1 = (-1 : Int32) then
    some (1, (0 : Int32), σ)
  else
    rc_bd (f_X2_keepAside rf (rf a0 5) σ) fun _ σ_1 =>
    some (0, u1, σ_1)
def f_X8_existing (rf : rc_F) (a0 : Nat) (u1 : Int32) (σ : rc_S) : Option (Nat × Nat × rc_S) :=
  rc_bd (f_X1_hasBarrel rf (rf a0 1) u1 σ) fun w_1 σ_1 =>
  if w_1 = 0 then
    some (2, 0, σ_1)
  else
    rc_ck (rc_in u1 8) <|
    some (0, (rf (rf (rf a0 1) 1) u1.toNatClampNeg), σ_1)
def f_X8_filled (rf : rc_F) (a0 : Nat) (u1 : Int32) (σ : rc_S) : Option (Nat × Nat × rc_S) :=
  rc_bx (f_X8_existing rf a0 u1 σ) 0 fun w_1 σ_1 =>
  rc_bd (f_X0_isEmpty rf w_1 σ_1) fun w_2 σ_2 =>
  if w_2 = 0 then
    some (0, w_1, σ_2)
  else
    some (4, 0, σ_2)
def f_X8_isOutside (rf : rc_F) (u0 : Int32) (u1 : Int32) (u2 : Int32) (σ : rc_S) : Option (Int32 × rc_S) :=
  if u0 < u1 then
    some ((1 : Int32), σ)
  else
    if u0 ≤ u2 then
      some ((0 : Int32), σ)
    else
      some ((1 : Int32), σ)
def f_X8_litresOnRoof (rf : rc_F) (u0 : Int32) (u1 : Int32) (σ : rc_S) : Option (Int32 × rc_S) :=
  some (((u0 + (1 : Int32)) * u1), σ)
def f_X8_litresOnRoofs_4 (rf : rc_F) (v0 : Int32) (K : Int32 → Int32 → rc_S → Option (Int32 × rc_S)) : Nat → Int32 → Int32 → rc_S → Option (Int32 × rc_S)
  | 0, _, _, _ => none
  | n + 1, v1, v2, σ =>
    if (4 : Int32) ≤ v2 then
      K v1 v2 σ
    else
      rc_bd (f_X8_litresOnRoof rf v2 v0 σ) fun w_1 σ_1 =>
      rc_lt (v1 + w_1) fun v1_2 =>
      rc_lt (v2 + 1) fun v2_3 =>
      f_X8_litresOnRoofs_4 rf v0 K n v1_2 v2_3 σ_1
def f_X8_litresOnRoofs (rf : rc_F) (u0 : Int32) (σ : rc_S) : Option (Int32 × rc_S) :=
  f_X8_litresOnRoofs_4 rf u0 (fun v1_5 v2_6 σ_7 =>
    some (v1_5, σ_7)
  ) rc_fu (0 : Int32) (0 : Int32) σ
def f_X0_copy (rf : rc_F) (a0 : Nat) (q1 : Nat) (σ : rc_S) : Option (Unit × rc_S) :=
  rc_lt (rc_up σ a0 0 (σ q1 0)) fun σ_1 =>
  rc_lt (rc_up σ_1 a0 1 (σ_1 q1 1)) fun σ_2 =>
  rc_lt (rc_up σ_2 a0 2 (σ_2 q1 2)) fun σ_3 =>
  rc_bd (f_X0_copyVintage rf a0 q1 σ_3) fun _ σ_4 =>
  some ((), σ_4)
def f_X0_hailPart (rf : rc_F) (a0 : Nat) (σ : rc_S) : Option (Int32 × rc_S) :=
  rc_bd (f_X0_hailPartWith rf a0 (0 : Int32) σ) fun w_1 σ_1 =>
  some (w_1, σ_1)
def f_X0_noteOfTaste (rf : rc_F) (a0 : Nat) (u1 : Int32) (σ : rc_S) : Option (Int32 × rc_S) :=
  rc_bd (f_X0_hailPart rf a0 σ) fun w_1 σ_1 =>
  some (((u1 * ((100 : Int32) - w_1)) / (100 : Int32)), σ_1)
def f_X0_hailIn (rf : rc_F) (a0 : Nat) (u1 : Int32) (σ : rc_S) : Option (Int32 × rc_S) :=
  rc_lt ((σ a0 1) - (σ a0 2)) fun v2_1 =>
  rc_bd (f_X0_hailPart rf a0 σ) fun w_2 σ_2 =>
  some ((if ((u1 * w_2) / (100 : Int32)) < (u1 - v2_1) then (u1 - v2_1) else ((u1 * w_2) / (100 : Int32))), σ_2)
def f_X1_copy_2 (rf : rc_F) (a0 : Nat) (r1 : Nat) (K : Int32 → rc_S → Option (Unit × rc_S)) : Nat → Int32 → rc_S → Option (Unit × rc_S)
  | 0, _, _ => none
  | n + 1, v2, σ =>
    if (4 : Int32) ≤ v2 then
      K v2 σ
    else
      rc_ck (rc_in v2 4) <|
      rc_ck (rc_in v2 4) <|
      rc_lt (rc_up σ (rf a0 0) v2.toNatClampNeg (σ (rf r1 0) v2.toNatClampNeg)) fun σ_3 =>
      rc_lt (v2 + 1) fun v2_4 =>
      f_X1_copy_2 rf a0 r1 K n v2_4 σ_3
def f_X1_copy_27 (rf : rc_F) (a0 : Nat) (r1 : Nat) (K : Int32 → rc_S → Option (Unit × rc_S)) : Nat → Int32 → rc_S → Option (Unit × rc_S)
  | 0, _, _ => none
  | n + 1, v2, σ =>
    if (8 : Int32) ≤ v2 then
      K v2 σ
    else
      rc_ck (rc_in v2 8) <|
      rc_ck (rc_in v2 8) <|
      rc_bd (f_X0_copy rf (rf (rf a0 1) v2.toNatClampNeg) (rf (rf r1 1) v2.toNatClampNeg) σ) fun _ σ_10 =>
      rc_lt (v2 + 1) fun v2_11 =>
      f_X1_copy_27 rf a0 r1 K n v2_11 σ_10
def f_X1_copy_56 (rf : rc_F) (a0 : Nat) (r1 : Nat) (K : Int32 → rc_S → Option (Unit × rc_S)) : Nat → Int32 → rc_S → Option (Unit × rc_S)
  | 0, _, _ => none
  | n + 1, v2, σ =>
    if (12 : Int32) ≤ v2 then
      K v2 σ
    else
      rc_ck (rc_in v2 12) <|
      rc_ck (rc_in v2 12) <|
      rc_bd (f_X4_copy rf (rf (rf a0 4) v2.toNatClampNeg) (rf (rf r1 4) v2.toNatClampNeg) σ) fun _ σ_17 =>
      rc_lt (v2 + 1) fun v2_18 =>
      f_X1_copy_56 rf a0 r1 K n v2_18 σ_17
def f_X1_copy (rf : rc_F) (a0 : Nat) (q1 : Nat) (σ : rc_S) : Option (Unit × rc_S) :=
  f_X1_copy_2 rf a0 q1 (fun v2_6 σ_7 =>
    f_X1_copy_27 rf a0 q1 (fun v2_13 σ_14 =>
      f_X1_copy_56 rf a0 q1 (fun v2_20 σ_21 =>
        rc_bd (f_X3_copy rf (rf a0 3) (rf q1 3) σ_21) fun _ σ_22 =>
        rc_bd (f_X1_copyCounts rf a0 q1 σ_22) fun _ σ_23 =>
        some ((), σ_23)
      ) rc_fu (0 : Int32) σ_14
    ) rc_fu (0 : Int32) σ_7
  ) rc_fu (0 : Int32) σ
def f_X1_dropBarrel_2 (rf : rc_F) (a0 : Nat) (K : Int32 → rc_S → Option (Unit × rc_S)) : Nat → Int32 → rc_S → Option (Unit × rc_S)
  | 0, _, _ => none
  | n + 1, v2, σ =>
    if (σ a0 2) ≤ (v2 + (1 : Int32)) then
      K v2 σ
    else
      rc_ck (rc_in v2 8) <|
      rc_ck (rc_in (v2 + (1 : Int32)) 8) <|
      rc_bd (f_X0_copy rf (rf (rf a0 1) v2.toNatClampNeg) (rf (rf a0 1) (v2 + (1 : Int32)).toNatClampNeg) σ) fun _ σ_3 =>
      rc_lt (v2 + 1) fun v2_4 =>
      f_X1_dropBarrel_2 rf a0 K n v2_4 σ_3
def f_X1_dropBarrel (rf : rc_F) (a0 : Nat) (u1 : Int32) (σ : rc_S) : Option (Unit × rc_S) :=
  f_X1_dropBarrel_2 rf a0 (fun v2_6 σ_7 =>
    rc_lt (rc_up σ_7 a0 2 ((σ_7 a0 2) - (1 : Int32))) fun σ_8 =>
    some ((), σ_8)
  ) rc_fu u1 σ
set_option maxHeartbeats 4000000 in
set_option maxRecDepth 100000 in
theorem k_X7_letYearGoBy (l : Launch) {Y : rc_Y} {sh : Nat → Nat} {rf : rc_F} (hT : rc_T Y sh rf) (a0 : Nat) (h0 : sh a0 = 8) (sz : Nat) (σ σ' : rc_S) (r : Int32) (hm : f_X7_letYearGoBy rf a0 σ = some (r, σ')) : Met l yX7_letYearGoBy (Cond.code yX7_letYearGoBy cX7_letYearGoBy 3 (some .int) :: rc_big) ({ frames := 1, cells := 0, slots := 0, locals := 15 } : Room) (rc_P Y sh rf σ sz [.ref a0]) (va_Qi (fun (r' : Int32) (_ : Unit) => r' = r) (fun _ t => rc_W Y sh rf σ' t.heap) (rc_A sh sz)) 0 0 (rc_A sh sz) := by
  refine Met.ofW (cc := cX7_letYearGoBy) (maxL := 3) (ret := (some .int)) (by decide +kernel) rfl ?_
  intro p e s m args below meth c s₁ B hml hv
  obtain ⟨rfl, hsz, hW, hK, hE⟩ := hv
  have hx := B.exec
  have hb := B.bytes
  have hr := B.returns
  have hts : ∀ w ∈ rc_big, w.before _ s = true := fun w h => atoms_spec (ws := Cond.code yX7_letYearGoBy cX7_letYearGoBy 3 (some .int) :: rc_big) B.pre w (List.mem_cons_of_mem _ h)
  have hown : s.vm.findClass RX7 = some m.cls := findClass_of_methodNamed B.named
  have hlocks := B.notSynchronized
  clear B
  subst hsz
  have hS : va_S (rc_A sh s.heap.size) s.heap s.heap [] := va_S.rf
  have hl := lv_entry ([.ref a0]) (n := 3) (Nat.le_of_ble_eq_true rfl)
  rw [lg_entry_eq]
  generalize (lg_sl ([.ref a0]) ++ List.replicate (3 - (lg_sl ([.ref a0])).length) Slot.unset).toArray = ls at hl ⊢
  have hl : lv_has ls 3 [(0, .ref a0)] := hl
  have lp_10 : ∀ (v1 : Int32) (K : Int32 → rc_S → Option (Int32 × rc_S)) (hKK : ∀ (v2 : Int32) (σ : rc_S) (H : Heap) (locs : List Loc) (ls : Array Slot), K v2 σ = some (r, σ') → rc_W Y sh rf σ H → va_S (rc_A sh s.heap.size) s.heap H locs → lv_has ls 3 [(0, .ref a0), (1, .int v1)] → W p l e (headSpec (Cond.code yX7_letYearGoBy cX7_letYearGoBy 3 (some .int) :: rc_big) ({ frames := 1, cells := 0, slots := 0, locals := 15 } : Room)).room s m (([.ref a0] : List Value).toArray) below meth c H locs 0 0 (MQ below (va_Qi (fun (r' : Int32) (_ : Unit) => r' = r) (fun _ t => rc_W Y sh rf σ' t.heap) (rc_A sh s.heap.size)) ([.ref a0] : List Value).toArray s 0 0 (rc_A sh s.heap.size)) (F0 m 46 ls [])) (n : Nat) (v2 : Int32) (σ : rc_S) (H : Heap) (locs : List Loc) (ls : Array Slot), f_X7_letYearGoBy_10 rf a0 v1 K n v2 σ = some (r, σ') → rc_W Y sh rf σ H → va_S (rc_A sh s.heap.size) s.heap H locs → lv_has ls 3 [(0, .ref a0), (1, .int v1), (2, .int v2)] → W p l e (headSpec (Cond.code yX7_letYearGoBy cX7_letYearGoBy 3 (some .int) :: rc_big) ({ frames := 1, cells := 0, slots := 0, locals := 15 } : Room)).room s m (([.ref a0] : List Value).toArray) below meth c H locs 0 0 (MQ below (va_Qi (fun (r' : Int32) (_ : Unit) => r' = r) (fun _ t => rc_W Y sh rf σ' t.heap) (rc_A sh s.heap.size)) ([.ref a0] : List Value).toArray s 0 0 (rc_A sh s.heap.size)) (F0 m 10 ls []) := by
    intro v1 K hKK n
    induction n with
    | zero =>
      intro v2 σ H locs ls hm
      rw [f_X7_letYearGoBy_10] at hm
      cases hm
    | succ n ih =>
      intro v2 σ H locs ls hm hW hS hl
      rw [f_X7_letYearGoBy_10] at hm
      refine lv_iload_n hx hb dX7_letYearGoBy_10 rfl (lv_at hl 2 rfl) ?_
      refine lv_iconst (v := 4) hx hb dX7_letYearGoBy_11 (by decide) ?_
      refine lv_icmp_ge (tgt := 46) hx hb dX7_letYearGoBy_12 (by decide) (fun c_6 => ?_) (fun c_6 => ?_)
      · replace hm := rc_t hm c_6
        exact hKK v2 σ _ _ _ hm hW hS (lv_sub hl [0, 1] rfl)
      · replace hm := rc_f hm c_6
        refine lv_aload_n hx hb dX7_letYearGoBy_15 rfl (lv_at hl 0 rfl) ?_
        refine rg_8_0 hx hb hts hown hK hW h0 tw_1_226 dX7_letYearGoBy_16 ?_
        refine rg_2_0 hx hb hts hown hK hW (rc_t_8_0 hT h0) tw_1_141 dX7_letYearGoBy_19 ?_
        refine lv_iload_n hx hb dX7_letYearGoBy_22 rfl (lv_at hl 2 rfl) ?_
        refine lv_aload_n hx hb dX7_letYearGoBy_23 rfl (lv_at hl 0 rfl) ?_
        refine rg_8_0 hx hb hts hown hK hW h0 tw_1_226 dX7_letYearGoBy_24 ?_
        refine rg_2_0 hx hb hts hown hK hW (rc_t_8_0 hT h0) tw_1_141 dX7_letYearGoBy_27 ?_
        refine lv_iload_n hx hb dX7_letYearGoBy_30 rfl (lv_at hl 2 rfl) ?_
        have hi_2 := (rc_ix hm).1
        replace hm := (rc_ix hm).2
        refine rc_ialdj (j := v2.toNatClampNeg) hx hb hK hW (rc_t_2_0 hT (rc_t_8_0 hT h0)) (by decide) rfl hi_2 rfl dX7_letYearGoBy_31 ?_
        refine lv_iconst (v := 1) hx hb dX7_letYearGoBy_32 (by decide) ?_
        refine lv_iadd hx hb dX7_letYearGoBy_33 ?_
        refine lv_bipush (v := 9) hx hb dX7_letYearGoBy_34 (by decide) ?_
        refine va_mmin hx hb (hml.trans hl.1.symm) hown (hts _ tw_3_232) (hts _ tw_3_31) (hts _ tw_1_22) (hts _ tw_3_32) (Nat.le_of_ble_eq_true rfl) (Nat.le_of_ble_eq_true rfl) (Nat.le_of_ble_eq_true rfl) (Nat.le_of_ble_eq_true rfl) dX7_letYearGoBy_36 ?_
        have hi_3 := (rc_ix hm).1
        replace hm := (rc_ix hm).2
        refine rc_iastj (j := v2.toNatClampNeg) hx hb hK hW hS (rc_t_2_0 hT (rc_t_8_0 hT h0)) (by decide) (fun _ => rfl) hi_3 rfl dX7_letYearGoBy_39 (fun σ_4 H locs eσ hW hS => ?_)
        replace hm := rc_lt_at hm eσ
        clear eσ
        obtain ⟨v2_5, ev⟩ : ∃ y : Int32, y = (v2 + 1) := ⟨_, rfl⟩
        replace hm := rc_lt_at hm ev
        refine lv_iinc (v := v2_5) (lv' := [(2, .int v2_5), (0, .ref a0), (1, .int v1)]) hx hb dX7_letYearGoBy_40 hl (k := 2) rfl (by rw [ev]; rfl) (by decide) rfl (fun ls hl => ?_)
        clear ev
        refine lv_goto (tgt := 10) hx hb dX7_letYearGoBy_43 (by decide) ?_
        exact ih v2_5 σ_4 _ _ _ hm hW hS (lv_sub hl [1, 2, 0] rfl)
  unfold f_X7_letYearGoBy at hm
  refine lv_aload_n hx hb dX7_letYearGoBy_0 rfl (lv_at hl 0 rfl) ?_
  refine rg_8_0 hx hb hts hown hK hW h0 tw_1_226 dX7_letYearGoBy_1 ?_
  refine rg_2_6 hx hb hts hown hK hW (rc_t_8_0 hT h0) tw_1_157 dX7_letYearGoBy_4 ?_
  refine lv_topi (fun v1_1 ev => ?_)
  replace hm := rc_lt_at hm ev
  clear ev
  refine lv_istore_n (lv' := [(1, .int v1_1), (0, .ref a0)]) hx hb dX7_letYearGoBy_7 rfl hl (by decide) rfl (fun ls hl => ?_)
  refine lv_iconst (v := 0) hx hb dX7_letYearGoBy_8 (by decide) ?_
  refine lv_istore_n (lv' := [(2, .int (0 : Int32)), (1, .int v1_1), (0, .ref a0)]) hx hb dX7_letYearGoBy_9 rfl hl (by decide) rfl (fun ls hl => ?_)
  refine lp_10 v1_1 _ (fun v2_7 σ_8 H locs ls hm hW hS hl => ?_) rc_fu (0 : Int32) σ _ _ _ hm hW hS (lv_sub hl [2, 1, 0] rfl)
  refine lv_aload_n hx hb dX7_letYearGoBy_46 rfl (lv_at hl 0 rfl) ?_
  refine rg_8_0 hx hb hts hown hK hW h0 tw_1_226 dX7_letYearGoBy_47 ?_
  refine lv_iconst (v := 0) hx hb dX7_letYearGoBy_50 (by decide) ?_
  refine rp_2_6 hx hb hts hown hK hW hS (rc_t_8_0 hT h0) tw_1_157 dX7_letYearGoBy_51 (fun σ_9 H locs eσ hW hS => ?_)
  replace hm := rc_lt_at hm eσ
  clear eσ
  refine lv_aload_n hx hb dX7_letYearGoBy_54 rfl (lv_at hl 0 rfl) ?_
  refine rg_8_0 hx hb hts hown hK hW h0 tw_1_226 dX7_letYearGoBy_55 ?_
  refine lv_dup hx hb dX7_letYearGoBy_58 rfl ?_
  refine rg_2_7 hx hb hts hown hK hW (rc_t_8_0 hT h0) tw_1_160 dX7_letYearGoBy_59 ?_
  refine lv_iconst (v := 1) hx hb dX7_letYearGoBy_62 (by decide) ?_
  refine lv_iadd hx hb dX7_letYearGoBy_63 ?_
  refine rp_2_7 hx hb hts hown hK hW hS (rc_t_8_0 hT h0) tw_1_160 dX7_letYearGoBy_64 (fun σ_10 H locs eσ hW hS => ?_)
  replace hm := rc_lt_at hm eσ
  clear eσ
  refine lv_iload_n hx hb dX7_letYearGoBy_67 rfl (lv_at hl 1 rfl) ?_
  exact rc_eiret hx hb hr hlocks hW hS (Nat.le_of_ble_eq_true rfl) (Nat.le_of_ble_eq_true rfl) hm dX7_letYearGoBy_68
set_option maxHeartbeats 4000000 in
set_option maxRecDepth 100000 in
theorem k_X8_stormOf (l : Launch) (hl9 : l.stackTraces = false) {Y : rc_Y} {sh : Nat → Nat} {rf : rc_F} (hT : rc_T Y sh rf) (a0 : Nat) (u1 : Int32) (u2 : Int32) (h0 : sh a0 = 9) (sz : Nat) (σ σ' : rc_S) (k : Nat) (r : Int32) (hm : f_X8_stormOf rf a0 u1 u2 σ = some (k, r, σ')) : vx_Met l yX8_stormOf (Cond.code yX8_stormOf cX8_stormOf 4 (some .int) :: rc_big) ({ frames := 6, cells := 1, slots := 6, locals := 81 } : Room) (rc_P Y sh rf σ sz [.ref a0, .int u1, .int u2]) (va_Qi (fun (r' : Int32) (_ : Unit) => k = 0 ∧ r' = r) (fun _ t => rc_W Y sh rf σ' t.heap) (rc_A sh sz)) (rc_XC Y sh rf σ' k sz) 1 6 (rc_A sh sz) := by
  refine vx_ofW (cc := cX8_stormOf) (maxL := 4) (ret := (some .int)) (by decide +kernel) rfl ?_
  intro p e s m args below meth c s₁ B hml hout hv
  obtain ⟨rfl, hsz, hW, hK, hE⟩ := hv
  have hx := B.exec
  have hb := B.bytes
  have hr := B.returns
  have hts : ∀ w ∈ rc_big, w.before _ s = true := fun w h => atoms_spec (ws := Cond.code yX8_stormOf cX8_stormOf 4 (some .int) :: rc_big) B.pre w (List.mem_cons_of_mem _ h)
  have hown : s.vm.findClass RX8 = some m.cls := findClass_of_methodNamed B.named
  have hlocks := B.notSynchronized
  clear B
  subst hsz
  have hS : va_S (rc_A sh s.heap.size) s.heap s.heap [] := va_S.rf
  have hl := lv_entry ([.ref a0, .int u1, .int u2]) (n := 4) (Nat.le_of_ble_eq_true rfl)
  rw [lg_entry_eq]
  generalize (lg_sl ([.ref a0, .int u1, .int u2]) ++ List.replicate (4 - (lg_sl ([.ref a0, .int u1, .int u2])).length) Slot.unset).toArray = ls at hl ⊢
  have hl : lv_has ls 4 [(0, .ref a0), (1, .int u1), (2, .int u2)] := hl
  unfold f_X8_stormOf at hm
  refine lv_aload_n hx hb dX8_stormOf_0 rfl (lv_at hl 0 rfl) ?_
  refine rg_9_1 hx hb hts hown hK hW h0 tw_2_83 dX8_stormOf_1 ?_
  refine lv_iload_n hx hb dX8_stormOf_4 rfl (lv_at hl 1 rfl) ?_
  obtain ⟨w_1, σ_1, hc_1, hm0⟩ := rc_bd_inv hm
  clear hm
  refine rc_ci hS (va_runV (As := [.int u1]) (rest := []) ⟨hx, hb, hml, hown, hts⟩ (k_X1_isLateStorm l hT (rf a0 1) u1 (rc_t_9_1 hT h0) s.heap.size _ _ _ hc_1) (cwV 1 hts (rc_gV tw_6_229 tw_6_230 tw_6_231 tw_1_3 tw_6_232) rfl rfl rfl (by decide +kernel) ⟨Nat.le_of_ble_eq_true rfl, Nat.le_of_ble_eq_true rfl⟩) (rc_preV hT hW hK hE hS (rc_t_9_1 hT h0) (by decide) rfl (q := (RX1, TX1, 14)) rfl [.int u1]) rfl rfl hl.1 rfl (lv_room (Nat.le_of_ble_eq_true rfl)) dX8_stormOf_5 ⟨Nat.le_of_ble_eq_true rfl, Nat.le_of_ble_eq_true rfl⟩) (fun H locs hW hS => ?_)
  have hm := hm0
  clear hm0 hc_1
  refine lv_if_ne (tgt := 19) hx hb dX8_stormOf_8 (by decide) (fun c_6 => ?_) (fun c_6 => ?_)
  · replace hm := rc_f hm c_6
    refine lv_aload_n hx hb dX8_stormOf_19 rfl (lv_at hl 0 rfl) ?_
    refine rg_9_1 hx hb hts hown hK hW h0 tw_2_83 dX8_stormOf_20 ?_
    refine lv_iload_n hx hb dX8_stormOf_23 rfl (lv_at hl 1 rfl) ?_
    obtain ⟨w_2, σ_2, hc_2, hm0⟩ := rc_bd_inv hm
    clear hm
    refine rc_cr hS (va_runV (As := [.int u1]) (rest := []) ⟨hx, hb, hml, hown, hts⟩ (k_X1_rainfallOf l hT (rf a0 1) u1 (rc_t_9_1 hT h0) H.size _ _ _ hc_2) (cwV 1 hts (rc_gV tw_6_233 tw_4_2 tw_4_3 tw_1_3 tw_4_4) rfl rfl rfl (by decide +kernel) ⟨Nat.le_of_ble_eq_true rfl, Nat.le_of_ble_eq_true rfl⟩) (rc_preV hT hW hK hE hS (rc_t_9_1 hT h0) (by decide) rfl (q := (RX1, TX1, 14)) rfl [.int u1]) rfl rfl hl.1 rfl (lv_room (Nat.le_of_ble_eq_true rfl)) dX8_stormOf_24 ⟨Nat.le_of_ble_eq_true rfl, Nat.le_of_ble_eq_true rfl⟩) (fun H locs hr_2 hW hS => ?_)
    have hm := hm0
    clear hm0 hc_2
    refine lv_astore_n (lv' := [(3, .ref w_2), (0, .ref a0), (1, .int u1), (2, .int u2)]) hx hb dX8_stormOf_27 rfl hl (by decide) rfl (fun ls hl => ?_)
    refine lv_iload_n hx hb dX8_stormOf_28 rfl (lv_at hl 3 rfl) ?_
    by_cases c_3 : u2 = (0 : Int32)
    · replace hm := rc_t hm c_3
      refine lv_tableIn (off := 27) (tgt := 56) hx hb dX8_stormOf_29 (by rw [c_3]; decide) (by rw [c_3]; decide) (by rw [c_3]; decide) (by decide) ?_
      refine lv_aload_n hx hb dX8_stormOf_56 rfl (lv_at hl 0 rfl) ?_
      refine rg_5_0 hx hb hts hown hK hW hr_2 tw_1_126 dX8_stormOf_57 ?_
      exact rc_xiret hx hb hr hlocks hW hS (Nat.le_of_ble_eq_true rfl) (Nat.le_of_ble_eq_true rfl) hm dX8_stormOf_60
    · replace hm := rc_f hm c_3
      by_cases c_4 : u2 = (1 : Int32)
      · replace hm := rc_t hm c_4
        refine lv_tableIn (off := 32) (tgt := 61) hx hb dX8_stormOf_29 (by rw [c_4]; decide) (by rw [c_4]; decide) (by rw [c_4]; decide) (by decide) ?_
        refine lv_aload_n hx hb dX8_stormOf_61 rfl (lv_at hl 0 rfl) ?_
        refine rg_5_1 hx hb hts hown hK hW hr_2 tw_1_129 dX8_stormOf_62 ?_
        exact rc_xiret hx hb hr hlocks hW hS (Nat.le_of_ble_eq_true rfl) (Nat.le_of_ble_eq_true rfl) hm dX8_stormOf_65
      · replace hm := rc_f hm c_4
        by_cases c_5 : u2 = (2 : Int32)
        · replace hm := rc_t hm c_5
          refine lv_tableIn (off := 37) (tgt := 66) hx hb dX8_stormOf_29 (by rw [c_5]; decide) (by rw [c_5]; decide) (by rw [c_5]; decide) (by decide) ?_
          refine lv_aload_n hx hb dX8_stormOf_66 rfl (lv_at hl 0 rfl) ?_
          refine rg_5_2 hx hb hts hown hK hW hr_2 tw_1_132 dX8_stormOf_67 ?_
          exact rc_xiret hx hb hr hlocks hW hS (Nat.le_of_ble_eq_true rfl) (Nat.le_of_ble_eq_true rfl) hm dX8_stormOf_70
        · replace hm := rc_f hm c_5
          refine rc_tblD (tgt := 71) hx hb dX8_stormOf_29 [0, 1, 2] (by decide +kernel) (by decide +kernel) (rc_nk c_3 (by decide) (rc_nk c_4 (by decide) (rc_nk c_5 (by decide) rc_nk0))) (by decide) ?_
          exact rc_throw (n := 3) hx hb hl9 hT hE hW hS hts hown rfl (by decide) (by decide) rc_hk_3 rc_hi_3 (rc_hat_3 hts hE) rc_hgd_3 (hl.1.trans hml.symm) dX8_stormOf_71 dX8_stormOf_74 dX8_stormOf_75 dX8_stormOf_78 hout ⟨Nat.le_of_ble_eq_true rfl, Nat.le_of_ble_eq_true rfl, Nat.le_of_ble_eq_true rfl, Nat.le_of_ble_eq_true rfl⟩ hlocks (Nat.le_of_ble_eq_true rfl) (Nat.le_of_ble_eq_true rfl) hm
  · replace hm := rc_t hm c_6
    exact rc_throw (n := 4) hx hb hl9 hT hE hW hS hts hown rfl (by decide) (by decide) rc_hk_4 rc_hi_4 (rc_hat_4 hts hE) rc_hgd_4 (hl.1.trans hml.symm) dX8_stormOf_11 dX8_stormOf_14 dX8_stormOf_15 dX8_stormOf_18 hout ⟨Nat.le_of_ble_eq_true rfl, Nat.le_of_ble_eq_true rfl, Nat.le_of_ble_eq_true rfl, Nat.le_of_ble_eq_true rfl⟩ hlocks (Nat.le_of_ble_eq_true rfl) (Nat.le_of_ble_eq_true rfl) hm
set_option maxHeartbeats 4000000 in
set_option maxRecDepth 100000 in
theorem k_X8_isEven (l : Launch) {Y : rc_Y} {sh : Nat → Nat} {rf : rc_F} (hT : rc_T Y sh rf) (a0 : Nat) (h0 : sh a0 = 9) (sz : Nat) (σ σ' : rc_S) (r : Int32) (hm : f_X8_isEven rf a0 σ = some (r, σ')) : Met l yX8_isEven (Cond.code yX8_isEven cX8_isEven 1 (some .boolean) :: rc_big) ({ frames := 1, cells := 0, slots := 0, locals := 22 } : Room) (rc_P Y sh rf σ sz [.ref a0]) (va_Qi (fun (r' : Int32) (_ : Unit) => r' = r) (fun _ t => rc_W Y sh rf σ' t.heap) (rc_A sh sz)) 0 0 (rc_A sh sz) := by
  refine Met.ofW (cc := cX8_isEven) (maxL := 1) (ret := (some .boolean)) (by decide +kernel) rfl ?_
  intro p e s m args below meth c s₁ B hml hv
  obtain ⟨rfl, hsz, hW, hK, hE⟩ := hv
  have hx := B.exec
  have hb := B.bytes
  have hr := B.returns
  have hts : ∀ w ∈ rc_big, w.before _ s = true := fun w h => atoms_spec (ws := Cond.code yX8_isEven cX8_isEven 1 (some .boolean) :: rc_big) B.pre w (List.mem_cons_of_mem _ h)
  have hown : s.vm.findClass RX8 = some m.cls := findClass_of_methodNamed B.named
  have hlocks := B.notSynchronized
  clear B
  subst hsz
  have hS : va_S (rc_A sh s.heap.size) s.heap s.heap [] := va_S.rf
  have hl := lv_entry ([.ref a0]) (n := 1) (Nat.le_of_ble_eq_true rfl)
  rw [lg_entry_eq]
  generalize (lg_sl ([.ref a0]) ++ List.replicate (1 - (lg_sl ([.ref a0])).length) Slot.unset).toArray = ls at hl ⊢
  have hl : lv_has ls 1 [(0, .ref a0)] := hl
  unfold f_X8_isEven at hm
  refine lv_aload_n hx hb dX8_isEven_0 rfl (lv_at hl 0 rfl) ?_
  refine rg_9_1 hx hb hts hown hK hW h0 tw_2_83 dX8_isEven_1 ?_
  refine rg_2_8 hx hb hts hown hK hW (rc_t_9_1 hT h0) tw_1_164 dX8_isEven_4 ?_
  refine lv_aload_n hx hb dX8_isEven_7 rfl (lv_at hl 0 rfl) ?_
  refine rg_9_1 hx hb hts hown hK hW h0 tw_2_83 dX8_isEven_8 ?_
  refine rg_2_9 hx hb hts hown hK hW (rc_t_9_1 hT h0) tw_1_167 dX8_isEven_11 ?_
  refine lv_iadd hx hb dX8_isEven_14 ?_
  refine lv_aload_n hx hb dX8_isEven_15 rfl (lv_at hl 0 rfl) ?_
  refine rg_9_1 hx hb hts hown hK hW h0 tw_2_83 dX8_isEven_16 ?_
  obtain ⟨w_1, σ_1, hc_1, hm0⟩ := rc_bd_inv hm
  clear hm
  refine rc_ci hS (va_runV (As := []) (rest := [.int ((σ (rf a0 1) 8) + (σ (rf a0 1) 9))]) ⟨hx, hb, hml, hown, hts⟩ (k_X1_litresInBarrels l hT (rf a0 1) (rc_t_9_1 hT h0) s.heap.size _ _ _ hc_1) (cwV 0 hts (rc_gV tw_3_125 tw_3_126 tw_3_127 tw_1_3 tw_3_128) rfl rfl rfl (by decide +kernel) ⟨Nat.le_of_ble_eq_true rfl, Nat.le_of_ble_eq_true rfl⟩) (rc_preV hT hW hK hE hS (rc_t_9_1 hT h0) (by decide) rfl (q := (RX1, TX1, 14)) rfl []) rfl rfl hl.1 rfl (lv_room (Nat.le_of_ble_eq_true rfl)) dX8_isEven_19 ⟨Nat.le_of_ble_eq_true rfl, Nat.le_of_ble_eq_true rfl⟩) (fun H locs hW hS => ?_)
  have hm := hm0
  clear hm0 hc_1
  refine lv_aload_n hx hb dX8_isEven_22 rfl (lv_at hl 0 rfl) ?_
  refine rg_9_1 hx hb hts hown hK hW h0 tw_2_83 dX8_isEven_23 ?_
  refine rg_2_11 hx hb hts hown hK hW (rc_t_9_1 hT h0) tw_1_173 dX8_isEven_26 ?_
  refine lv_iadd hx hb dX8_isEven_29 ?_
  refine lv_aload_n hx hb dX8_isEven_30 rfl (lv_at hl 0 rfl) ?_
  refine rg_9_1 hx hb hts hown hK hW h0 tw_2_83 dX8_isEven_31 ?_
  refine rg_2_12 hx hb hts hown hK hW (rc_t_9_1 hT h0) tw_1_176 dX8_isEven_34 ?_
  refine lv_iadd hx hb dX8_isEven_37 ?_
  refine lv_icmp_ne (tgt := 45) hx hb dX8_isEven_38 (by decide) (fun c_2 => ?_) (fun c_2 => ?_)
  · replace hm := rc_f hm c_2
    refine lv_iconst (v := 0) hx hb dX8_isEven_45 (by decide) ?_
    exact rc_ezret hx hb hr hlocks hW hS (Nat.le_of_ble_eq_true rfl) (Nat.le_of_ble_eq_true rfl) rfl hm dX8_isEven_46
  · replace hm := rc_t hm c_2
    refine lv_iconst (v := 1) hx hb dX8_isEven_41 (by decide) ?_
    refine lv_goto (tgt := 46) hx hb dX8_isEven_42 (by decide) ?_
    exact rc_ezret hx hb hr hlocks hW hS (Nat.le_of_ble_eq_true rfl) (Nat.le_of_ble_eq_true rfl) rfl hm dX8_isEven_46
set_option maxHeartbeats 4000000 in
set_option maxRecDepth 100000 in
theorem k_X8_append (l : Launch) (hl9 : l.stackTraces = false) {Y : rc_Y} {sh : Nat → Nat} {rf : rc_F} (hT : rc_T Y sh rf) (a0 : Nat) (u1 : Int32) (h0 : sh a0 = 9) (sz : Nat) (σ σ' : rc_S) (k : Nat) (r : Int32) (hm : f_X8_append rf a0 u1 σ = some (k, r, σ')) : vx_Met l yX8_append (Cond.code yX8_append cX8_append 2 (some .int) :: rc_big) ({ frames := 6, cells := 1, slots := 6, locals := 81 } : Room) (rc_P Y sh rf σ sz [.ref a0, .int u1]) (va_Qi (fun (r' : Int32) (_ : Unit) => k = 0 ∧ r' = r) (fun _ t => rc_W Y sh rf σ' t.heap) (rc_A sh sz)) (rc_XC Y sh rf σ' k sz) 1 6 (rc_A sh sz) := by
  refine vx_ofW (cc := cX8_append) (maxL := 2) (ret := (some .int)) (by decide +kernel) rfl ?_
  intro p e s m args below meth c s₁ B hml hout hv
  obtain ⟨rfl, hsz, hW, hK, hE⟩ := hv
  have hx := B.exec
  have hb := B.bytes
  have hr := B.returns
  have hts : ∀ w ∈ rc_big, w.before _ s = true := fun w h => atoms_spec (ws := Cond.code yX8_append cX8_append 2 (some .int) :: rc_big) B.pre w (List.mem_cons_of_mem _ h)
  have hown : s.vm.findClass RX8 = some m.cls := findClass_of_methodNamed B.named
  have hlocks := B.notSynchronized
  clear B
  subst hsz
  have hS : va_S (rc_A sh s.heap.size) s.heap s.heap [] := va_S.rf
  have hl := lv_entry ([.ref a0, .int u1]) (n := 2) (Nat.le_of_ble_eq_true rfl)
  rw [lg_entry_eq]
  generalize (lg_sl ([.ref a0, .int u1]) ++ List.replicate (2 - (lg_sl ([.ref a0, .int u1])).length) Slot.unset).toArray = ls at hl ⊢
  have hl : lv_has ls 2 [(0, .ref a0), (1, .int u1)] := hl
  unfold f_X8_append at hm
  refine lv_aload_n hx hb dX8_append_0 rfl (lv_at hl 0 rfl) ?_
  refine rg_9_6 hx hb hts hown hK hW h0 tw_2_88 dX8_append_1 ?_
  refine rg_7_1 hx hb hts hown hK hW (rc_t_9_6 hT h0) tw_2_25 dX8_append_4 ?_
  refine lv_bipush (v := 60) hx hb dX8_append_7 (by decide) ?_
  refine lv_icmp_lt (tgt := 20) hx hb dX8_append_9 (by decide) (fun c_2 => ?_) (fun c_2 => ?_)
  · replace hm := rc_t hm c_2
    refine lv_aload_n hx hb dX8_append_20 rfl (lv_at hl 0 rfl) ?_
    refine rg_9_6 hx hb hts hown hK hW h0 tw_2_88 dX8_append_21 ?_
    refine lv_iload_n hx hb dX8_append_24 rfl (lv_at hl 1 rfl) ?_
    obtain ⟨w_1, σ_1, hc_1, hm0⟩ := rc_bd_inv hm
    clear hm
    refine rc_cv hS (va_runV (As := [.int u1]) (rest := []) ⟨hx, hb, hml, hown, hts⟩ (k_X6_add l hT (rf a0 6) u1 (rc_t_9_6 hT h0) s.heap.size _ _ _ hc_1) (cwV 1 hts (rc_gV tw_5_163 tw_5_164 tw_5_165 tw_1_9 tw_5_166) rfl rfl rfl (by decide +kernel) ⟨Nat.le_of_ble_eq_true rfl, Nat.le_of_ble_eq_true rfl⟩) (rc_preV hT hW hK hE hS (rc_t_9_6 hT h0) (by decide) rfl (q := (RX6, TX6, 7)) rfl [.int u1]) rfl rfl hl.1 rfl (lv_room (Nat.le_of_ble_eq_true rfl)) dX8_append_25 ⟨Nat.le_of_ble_eq_true rfl, Nat.le_of_ble_eq_true rfl⟩) (fun H locs hW hS => ?_)
    have hm := hm0
    clear hm0 hc_1
    refine lv_aload_n hx hb dX8_append_28 rfl (lv_at hl 0 rfl) ?_
    refine rg_9_6 hx hb hts hown hK hW h0 tw_2_88 dX8_append_29 ?_
    refine rg_7_1 hx hb hts hown hK hW (rc_t_9_6 hT h0) tw_2_25 dX8_append_32 ?_
    exact rc_xiret hx hb hr hlocks hW hS (Nat.le_of_ble_eq_true rfl) (Nat.le_of_ble_eq_true rfl) hm dX8_append_35
  · replace hm := rc_f hm c_2
    exact rc_throw (n := 5) hx hb hl9 hT hE hW hS hts hown rfl (by decide) (by decide) rc_hk_5 rc_hi_5 (rc_hat_5 hts hE) rc_hgd_5 (hl.1.trans hml.symm) dX8_append_12 dX8_append_15 dX8_append_16 dX8_append_19 hout ⟨Nat.le_of_ble_eq_true rfl, Nat.le_of_ble_eq_true rfl, Nat.le_of_ble_eq_true rfl, Nat.le_of_ble_eq_true rfl⟩ hlocks (Nat.le_of_ble_eq_true rfl) (Nat.le_of_ble_eq_true rfl) hm
set_option maxHeartbeats 4000000 in
set_option maxRecDepth 100000 in
theorem k_X8_panel (l : Launch) {Y : rc_Y} {sh : Nat → Nat} {rf : rc_F} (hT : rc_T Y sh rf) (a0 : Nat) (h0 : sh a0 = 9) (sz : Nat) (σ σ' : rc_S) (r : Int32) (hm : f_X8_panel rf a0 σ = some (r, σ')) : Met l yX8_panel (Cond.code yX8_panel cX8_panel 2 (some .int) :: rc_big) ({ frames := 3, cells := 0, slots := 0, locals := 70 } : Room) (rc_P Y sh rf σ sz [.ref a0]) (va_Qi (fun (r' : Int32) (_ : Unit) => r' = r) (fun _ t => rc_W Y sh rf σ' t.heap) (rc_A sh sz)) 0 0 (rc_A sh sz) := by
  refine Met.ofW (cc := cX8_panel) (maxL := 2) (ret := (some .int)) (by decide +kernel) rfl ?_
  intro p e s m args below meth c s₁ B hml hv
  obtain ⟨rfl, hsz, hW, hK, hE⟩ := hv
  have hx := B.exec
  have hb := B.bytes
  have hr := B.returns
  have hts : ∀ w ∈ rc_big, w.before _ s = true := fun w h => atoms_spec (ws := Cond.code yX8_panel cX8_panel 2 (some .int) :: rc_big) B.pre w (List.mem_cons_of_mem _ h)
  have hown : s.vm.findClass RX8 = some m.cls := findClass_of_methodNamed B.named
  have hlocks := B.notSynchronized
  clear B
  subst hsz
  have hS : va_S (rc_A sh s.heap.size) s.heap s.heap [] := va_S.rf
  have hl := lv_entry ([.ref a0]) (n := 2) (Nat.le_of_ble_eq_true rfl)
  rw [lg_entry_eq]
  generalize (lg_sl ([.ref a0]) ++ List.replicate (2 - (lg_sl ([.ref a0])).length) Slot.unset).toArray = ls at hl ⊢
  have hl : lv_has ls 2 [(0, .ref a0)] := hl
  have lp_10 : ∀ (K : Int32 → rc_S → Option (Int32 × rc_S)) (hKK : ∀ (v1 : Int32) (σ : rc_S) (H : Heap) (locs : List Loc) (ls : Array Slot), K v1 σ = some (r, σ') → rc_W Y sh rf σ H → va_S (rc_A sh s.heap.size) s.heap H locs → lv_has ls 2 [(0, .ref a0)] → W p l e (headSpec (Cond.code yX8_panel cX8_panel 2 (some .int) :: rc_big) ({ frames := 3, cells := 0, slots := 0, locals := 70 } : Room)).room s m (([.ref a0] : List Value).toArray) below meth c H locs (0 + 0) (0 + 0) (MQ below (va_Qi (fun (r' : Int32) (_ : Unit) => r' = r) (fun _ t => rc_W Y sh rf σ' t.heap) (rc_A sh s.heap.size)) ([.ref a0] : List Value).toArray s 0 0 (rc_A sh s.heap.size)) (F0 m 89 ls [])) (n : Nat) (v1 : Int32) (σ : rc_S) (H : Heap) (locs : List Loc) (ls : Array Slot), f_X8_panel_10 rf a0 K n v1 σ = some (r, σ') → rc_W Y sh rf σ H → va_S (rc_A sh s.heap.size) s.heap H locs → lv_has ls 2 [(0, .ref a0), (1, .int v1)] → W p l e (headSpec (Cond.code yX8_panel cX8_panel 2 (some .int) :: rc_big) ({ frames := 3, cells := 0, slots := 0, locals := 70 } : Room)).room s m (([.ref a0] : List Value).toArray) below meth c H locs (0 + 0) (0 + 0) (MQ below (va_Qi (fun (r' : Int32) (_ : Unit) => r' = r) (fun _ t => rc_W Y sh rf σ' t.heap) (rc_A sh s.heap.size)) ([.ref a0] : List Value).toArray s 0 0 (rc_A sh s.heap.size)) (F0 m 10 ls []) := by
    intro  K hKK n
    induction n with
    | zero =>
      intro v1 σ H locs ls hm
      rw [f_X8_panel_10] at hm
      cases hm
    | succ n ih =>
      intro v1 σ H locs ls hm hW hS hl
      rw [f_X8_panel_10] at hm
      refine lv_iload_n hx hb dX8_panel_10 rfl (lv_at hl 1 rfl) ?_
      refine lv_aload_n hx hb dX8_panel_11 rfl (lv_at hl 0 rfl) ?_
      refine rg_9_1 hx hb hts hown hK hW h0 tw_2_83 dX8_panel_12 ?_
      refine rg_2_3 hx hb hts hown hK hW (rc_t_9_1 hT h0) tw_1_151 dX8_panel_15 ?_
      refine rg_4_2 hx hb hts hown hK hW (rc_t_2_3 hT (rc_t_9_1 hT h0)) tw_1_68 dX8_panel_18 ?_
      refine lv_icmp_ge (tgt := 89) hx hb dX8_panel_21 (by decide) (fun c_24 => ?_) (fun c_24 => ?_)
      · replace hm := rc_t hm c_24
        exact hKK v1 σ _ _ _ hm hW hS (lv_sub hl [0] rfl)
      · replace hm := rc_f hm c_24
        refine lv_iload_n hx hb dX8_panel_24 rfl (lv_at hl 1 rfl) ?_
        refine lv_if_le (tgt := 38) hx hb dX8_panel_25 (by decide) (fun c_23 => ?_) (fun c_23 => ?_)
        · replace hm := rc_t hm c_23
          refine lv_aload_n hx hb dX8_panel_38 rfl (lv_at hl 0 rfl) ?_
          refine rg_9_8 hx hb hts hown hK hW h0 tw_2_90 dX8_panel_39 ?_
          refine lv_aload_n hx hb dX8_panel_42 rfl (lv_at hl 0 rfl) ?_
          refine rg_9_1 hx hb hts hown hK hW h0 tw_2_83 dX8_panel_43 ?_
          refine rg_2_3 hx hb hts hown hK hW (rc_t_9_1 hT h0) tw_1_151 dX8_panel_46 ?_
          refine rg_4_1 hx hb hts hown hK hW (rc_t_2_3 hT (rc_t_9_1 hT h0)) tw_1_65 dX8_panel_49 ?_
          refine lv_iload_n hx hb dX8_panel_52 rfl (lv_at hl 1 rfl) ?_
          have hi_2 := (rc_ix hm).1
          replace hm := (rc_ix hm).2
          refine rc_zaldj (j := v1.toNatClampNeg) hx hb hK hW (rc_t_4_1 hT (rc_t_2_3 hT (rc_t_9_1 hT h0))) (by decide) rfl hi_2 rfl dX8_panel_53 ?_
          refine lv_if_eq (tgt := 62) hx hb dX8_panel_54 (by decide) (fun c_11 => ?_) (fun c_11 => ?_)
          · replace hm := rc_t hm c_11
            refine lv_bipush (v := 109) hx hb dX8_panel_62 (by decide) ?_
            obtain ⟨w_3, σ_3, hc_3, hm0⟩ := rc_bd_inv hm
            clear hm
            refine rc_cr hS (va_runV (As := [.int (109 : Int32)]) (rest := []) ⟨hx, hb, hml, hown, hts⟩ (k_J4_append_cf468 l hT (rf a0 8) (109 : Int32) (rc_t_9_8 hT h0) H.size _ _ _ hc_3) (cwV 1 hts (rc_gV tw_6_109 tw_6_110 tw_6_111 tw_1_11 tw_6_112) rfl rfl rfl (by decide +kernel) ⟨Nat.le_of_ble_eq_true rfl, Nat.le_of_ble_eq_true rfl⟩) (rc_preV hT hW hK hE hS (rc_t_9_8 hT h0) (by decide) rfl (q := (RJ4, TJ4, 4)) rfl [.int (109 : Int32)]) rfl rfl hl.1 rfl (lv_room (Nat.le_of_ble_eq_true rfl)) dX8_panel_64 ⟨Nat.le_of_ble_eq_true rfl, Nat.le_of_ble_eq_true rfl⟩) (fun H locs hr_3 hW hS => ?_)
            have hm := hm0
            clear hm0 hc_3
            refine lv_aload_n hx hb dX8_panel_67 rfl (lv_at hl 0 rfl) ?_
            refine rg_9_1 hx hb hts hown hK hW h0 tw_2_83 dX8_panel_68 ?_
            refine rg_2_3 hx hb hts hown hK hW (rc_t_9_1 hT h0) tw_1_151 dX8_panel_71 ?_
            refine rg_4_0 hx hb hts hown hK hW (rc_t_2_3 hT (rc_t_9_1 hT h0)) tw_1_63 dX8_panel_74 ?_
            refine lv_iload_n hx hb dX8_panel_77 rfl (lv_at hl 1 rfl) ?_
            have hi_4 := (rc_ix hm).1
            replace hm := (rc_ix hm).2
            refine rc_ialdj (j := v1.toNatClampNeg) hx hb hK hW (rc_t_4_0 hT (rc_t_2_3 hT (rc_t_9_1 hT h0))) (by decide) rfl hi_4 rfl dX8_panel_78 ?_
            obtain ⟨w_5, σ_5, hc_5, hm0⟩ := rc_bd_inv hm
            clear hm
            refine rc_cr hS (va_runV (As := [.int (σ_3 (rf (rf (rf a0 1) 3) 0) v1.toNatClampNeg)]) (rest := []) ⟨hx, hb, hml, hown, hts⟩ (k_J4_append_bf812 l hT w_3 (σ_3 (rf (rf (rf a0 1) 3) 0) v1.toNatClampNeg) hr_3 H.size _ _ _ hc_5) (cwV 1 hts (rc_gV tw_6_122 tw_5_16 tw_5_17 tw_1_11 tw_5_18) rfl rfl rfl (by decide +kernel) ⟨Nat.le_of_ble_eq_true rfl, Nat.le_of_ble_eq_true rfl⟩) (rc_preV hT hW hK hE hS hr_3 (by decide) rfl (q := (RJ4, TJ4, 4)) rfl [.int (σ_3 (rf (rf (rf a0 1) 3) 0) v1.toNatClampNeg)]) rfl rfl hl.1 rfl (lv_room (Nat.le_of_ble_eq_true rfl)) dX8_panel_79 ⟨Nat.le_of_ble_eq_true rfl, Nat.le_of_ble_eq_true rfl⟩) (fun H locs hr_5 hW hS => ?_)
            have hm := hm0
            clear hm0 hc_5
            refine lv_pop hx hb dX8_panel_82 rfl ?_
            obtain ⟨v1_6, ev⟩ : ∃ y : Int32, y = (v1 + 1) := ⟨_, rfl⟩
            replace hm := rc_lt_at hm ev
            refine lv_iinc (v := v1_6) (lv' := [(1, .int v1_6), (0, .ref a0)]) hx hb dX8_panel_83 hl (k := 1) rfl (by rw [ev]; rfl) (by decide) rfl (fun ls hl => ?_)
            clear ev
            refine lv_goto (tgt := 10) hx hb dX8_panel_86 (by decide) ?_
            exact ih v1_6 σ_5 _ _ _ hm hW hS (lv_sub hl [1, 0] rfl)
          · replace hm := rc_f hm c_11
            refine lv_bipush (v := 116) hx hb dX8_panel_57 (by decide) ?_
            refine lv_goto (tgt := 64) hx hb dX8_panel_59 (by decide) ?_
            obtain ⟨w_7, σ_7, hc_7, hm0⟩ := rc_bd_inv hm
            clear hm
            refine rc_cr hS (va_runV (As := [.int (116 : Int32)]) (rest := []) ⟨hx, hb, hml, hown, hts⟩ (k_J4_append_cf468 l hT (rf a0 8) (116 : Int32) (rc_t_9_8 hT h0) H.size _ _ _ hc_7) (cwV 1 hts (rc_gV tw_6_109 tw_6_110 tw_6_111 tw_1_11 tw_6_112) rfl rfl rfl (by decide +kernel) ⟨Nat.le_of_ble_eq_true rfl, Nat.le_of_ble_eq_true rfl⟩) (rc_preV hT hW hK hE hS (rc_t_9_8 hT h0) (by decide) rfl (q := (RJ4, TJ4, 4)) rfl [.int (116 : Int32)]) rfl rfl hl.1 rfl (lv_room (Nat.le_of_ble_eq_true rfl)) dX8_panel_64 ⟨Nat.le_of_ble_eq_true rfl, Nat.le_of_ble_eq_true rfl⟩) (fun H locs hr_7 hW hS => ?_)
            have hm := hm0
            clear hm0 hc_7
            refine lv_aload_n hx hb dX8_panel_67 rfl (lv_at hl 0 rfl) ?_
            refine rg_9_1 hx hb hts hown hK hW h0 tw_2_83 dX8_panel_68 ?_
            refine rg_2_3 hx hb hts hown hK hW (rc_t_9_1 hT h0) tw_1_151 dX8_panel_71 ?_
            refine rg_4_0 hx hb hts hown hK hW (rc_t_2_3 hT (rc_t_9_1 hT h0)) tw_1_63 dX8_panel_74 ?_
            refine lv_iload_n hx hb dX8_panel_77 rfl (lv_at hl 1 rfl) ?_
            have hi_8 := (rc_ix hm).1
            replace hm := (rc_ix hm).2
            refine rc_ialdj (j := v1.toNatClampNeg) hx hb hK hW (rc_t_4_0 hT (rc_t_2_3 hT (rc_t_9_1 hT h0))) (by decide) rfl hi_8 rfl dX8_panel_78 ?_
            obtain ⟨w_9, σ_9, hc_9, hm0⟩ := rc_bd_inv hm
            clear hm
            refine rc_cr hS (va_runV (As := [.int (σ_7 (rf (rf (rf a0 1) 3) 0) v1.toNatClampNeg)]) (rest := []) ⟨hx, hb, hml, hown, hts⟩ (k_J4_append_bf812 l hT w_7 (σ_7 (rf (rf (rf a0 1) 3) 0) v1.toNatClampNeg) hr_7 H.size _ _ _ hc_9) (cwV 1 hts (rc_gV tw_6_122 tw_5_16 tw_5_17 tw_1_11 tw_5_18) rfl rfl rfl (by decide +kernel) ⟨Nat.le_of_ble_eq_true rfl, Nat.le_of_ble_eq_true rfl⟩) (rc_preV hT hW hK hE hS hr_7 (by decide) rfl (q := (RJ4, TJ4, 4)) rfl [.int (σ_7 (rf (rf (rf a0 1) 3) 0) v1.toNatClampNeg)]) rfl rfl hl.1 rfl (lv_room (Nat.le_of_ble_eq_true rfl)) dX8_panel_79 ⟨Nat.le_of_ble_eq_true rfl, Nat.le_of_ble_eq_true rfl⟩) (fun H locs hr_9 hW hS => ?_)
            have hm := hm0
            clear hm0 hc_9
            refine lv_pop hx hb dX8_panel_82 rfl ?_
            obtain ⟨v1_10, ev⟩ : ∃ y : Int32, y = (v1 + 1) := ⟨_, rfl⟩
            replace hm := rc_lt_at hm ev
            refine lv_iinc (v := v1_10) (lv' := [(1, .int v1_10), (0, .ref a0)]) hx hb dX8_panel_83 hl (k := 1) rfl (by rw [ev]; rfl) (by decide) rfl (fun ls hl => ?_)
            clear ev
            refine lv_goto (tgt := 10) hx hb dX8_panel_86 (by decide) ?_
            exact ih v1_10 σ_9 _ _ _ hm hW hS (lv_sub hl [1, 0] rfl)
        · replace hm := rc_f hm c_23
          refine lv_aload_n hx hb dX8_panel_28 rfl (lv_at hl 0 rfl) ?_
          refine rg_9_8 hx hb hts hown hK hW h0 tw_2_90 dX8_panel_29 ?_
          refine lv_bipush (v := 32) hx hb dX8_panel_32 (by decide) ?_
          obtain ⟨w_12, σ_12, hc_12, hm0⟩ := rc_bd_inv hm
          clear hm
          refine rc_cr hS (va_runV (As := [.int (32 : Int32)]) (rest := []) ⟨hx, hb, hml, hown, hts⟩ (k_J4_append_cf468 l hT (rf a0 8) (32 : Int32) (rc_t_9_8 hT h0) H.size _ _ _ hc_12) (cwV 1 hts (rc_gV tw_6_109 tw_6_110 tw_6_111 tw_1_11 tw_6_112) rfl rfl rfl (by decide +kernel) ⟨Nat.le_of_ble_eq_true rfl, Nat.le_of_ble_eq_true rfl⟩) (rc_preV hT hW hK hE hS (rc_t_9_8 hT h0) (by decide) rfl (q := (RJ4, TJ4, 4)) rfl [.int (32 : Int32)]) rfl rfl hl.1 rfl (lv_room (Nat.le_of_ble_eq_true rfl)) dX8_panel_34 ⟨Nat.le_of_ble_eq_true rfl, Nat.le_of_ble_eq_true rfl⟩) (fun H locs hr_12 hW hS => ?_)
          have hm := hm0
          clear hm0 hc_12
          refine lv_pop hx hb dX8_panel_37 rfl ?_
          refine lv_aload_n hx hb dX8_panel_38 rfl (lv_at hl 0 rfl) ?_
          refine rg_9_8 hx hb hts hown hK hW h0 tw_2_90 dX8_panel_39 ?_
          refine lv_aload_n hx hb dX8_panel_42 rfl (lv_at hl 0 rfl) ?_
          refine rg_9_1 hx hb hts hown hK hW h0 tw_2_83 dX8_panel_43 ?_
          refine rg_2_3 hx hb hts hown hK hW (rc_t_9_1 hT h0) tw_1_151 dX8_panel_46 ?_
          refine rg_4_1 hx hb hts hown hK hW (rc_t_2_3 hT (rc_t_9_1 hT h0)) tw_1_65 dX8_panel_49 ?_
          refine lv_iload_n hx hb dX8_panel_52 rfl (lv_at hl 1 rfl) ?_
          have hi_13 := (rc_ix hm).1
          replace hm := (rc_ix hm).2
          refine rc_zaldj (j := v1.toNatClampNeg) hx hb hK hW (rc_t_4_1 hT (rc_t_2_3 hT (rc_t_9_1 hT h0))) (by decide) rfl hi_13 rfl dX8_panel_53 ?_
          refine lv_if_eq (tgt := 62) hx hb dX8_panel_54 (by decide) (fun c_22 => ?_) (fun c_22 => ?_)
          · replace hm := rc_t hm c_22
            refine lv_bipush (v := 109) hx hb dX8_panel_62 (by decide) ?_
            obtain ⟨w_14, σ_14, hc_14, hm0⟩ := rc_bd_inv hm
            clear hm
            refine rc_cr hS (va_runV (As := [.int (109 : Int32)]) (rest := []) ⟨hx, hb, hml, hown, hts⟩ (k_J4_append_cf468 l hT (rf a0 8) (109 : Int32) (rc_t_9_8 hT h0) H.size _ _ _ hc_14) (cwV 1 hts (rc_gV tw_6_109 tw_6_110 tw_6_111 tw_1_11 tw_6_112) rfl rfl rfl (by decide +kernel) ⟨Nat.le_of_ble_eq_true rfl, Nat.le_of_ble_eq_true rfl⟩) (rc_preV hT hW hK hE hS (rc_t_9_8 hT h0) (by decide) rfl (q := (RJ4, TJ4, 4)) rfl [.int (109 : Int32)]) rfl rfl hl.1 rfl (lv_room (Nat.le_of_ble_eq_true rfl)) dX8_panel_64 ⟨Nat.le_of_ble_eq_true rfl, Nat.le_of_ble_eq_true rfl⟩) (fun H locs hr_14 hW hS => ?_)
            have hm := hm0
            clear hm0 hc_14
            refine lv_aload_n hx hb dX8_panel_67 rfl (lv_at hl 0 rfl) ?_
            refine rg_9_1 hx hb hts hown hK hW h0 tw_2_83 dX8_panel_68 ?_
            refine rg_2_3 hx hb hts hown hK hW (rc_t_9_1 hT h0) tw_1_151 dX8_panel_71 ?_
            refine rg_4_0 hx hb hts hown hK hW (rc_t_2_3 hT (rc_t_9_1 hT h0)) tw_1_63 dX8_panel_74 ?_
            refine lv_iload_n hx hb dX8_panel_77 rfl (lv_at hl 1 rfl) ?_
            have hi_15 := (rc_ix hm).1
            replace hm := (rc_ix hm).2
            refine rc_ialdj (j := v1.toNatClampNeg) hx hb hK hW (rc_t_4_0 hT (rc_t_2_3 hT (rc_t_9_1 hT h0))) (by decide) rfl hi_15 rfl dX8_panel_78 ?_
            obtain ⟨w_16, σ_16, hc_16, hm0⟩ := rc_bd_inv hm
            clear hm
            refine rc_cr hS (va_runV (As := [.int (σ_14 (rf (rf (rf a0 1) 3) 0) v1.toNatClampNeg)]) (rest := []) ⟨hx, hb, hml, hown, hts⟩ (k_J4_append_bf812 l hT w_14 (σ_14 (rf (rf (rf a0 1) 3) 0) v1.toNatClampNeg) hr_14 H.size _ _ _ hc_16) (cwV 1 hts (rc_gV tw_6_122 tw_5_16 tw_5_17 tw_1_11 tw_5_18) rfl rfl rfl (by decide +kernel) ⟨Nat.le_of_ble_eq_true rfl, Nat.le_of_ble_eq_true rfl⟩) (rc_preV hT hW hK hE hS hr_14 (by decide) rfl (q := (RJ4, TJ4, 4)) rfl [.int (σ_14 (rf (rf (rf a0 1) 3) 0) v1.toNatClampNeg)]) rfl rfl hl.1 rfl (lv_room (Nat.le_of_ble_eq_true rfl)) dX8_panel_79 ⟨Nat.le_of_ble_eq_true rfl, Nat.le_of_ble_eq_true rfl⟩) (fun H locs hr_16 hW hS => ?_)
            have hm := hm0
            clear hm0 hc_16
            refine lv_pop hx hb dX8_panel_82 rfl ?_
            obtain ⟨v1_17, ev⟩ : ∃ y : Int32, y = (v1 + 1) := ⟨_, rfl⟩
            replace hm := rc_lt_at hm ev
            refine lv_iinc (v := v1_17) (lv' := [(1, .int v1_17), (0, .ref a0)]) hx hb dX8_panel_83 hl (k := 1) rfl (by rw [ev]; rfl) (by decide) rfl (fun ls hl => ?_)
            clear ev
            refine lv_goto (tgt := 10) hx hb dX8_panel_86 (by decide) ?_
            exact ih v1_17 σ_16 _ _ _ hm hW hS (lv_sub hl [1, 0] rfl)
          · replace hm := rc_f hm c_22
            refine lv_bipush (v := 116) hx hb dX8_panel_57 (by decide) ?_
            refine lv_goto (tgt := 64) hx hb dX8_panel_59 (by decide) ?_
            obtain ⟨w_18, σ_18, hc_18, hm0⟩ := rc_bd_inv hm
            clear hm
            refine rc_cr hS (va_runV (As := [.int (116 : Int32)]) (rest := []) ⟨hx, hb, hml, hown, hts⟩ (k_J4_append_cf468 l hT (rf a0 8) (116 : Int32) (rc_t_9_8 hT h0) H.size _ _ _ hc_18) (cwV 1 hts (rc_gV tw_6_109 tw_6_110 tw_6_111 tw_1_11 tw_6_112) rfl rfl rfl (by decide +kernel) ⟨Nat.le_of_ble_eq_true rfl, Nat.le_of_ble_eq_true rfl⟩) (rc_preV hT hW hK hE hS (rc_t_9_8 hT h0) (by decide) rfl (q := (RJ4, TJ4, 4)) rfl [.int (116 : Int32)]) rfl rfl hl.1 rfl (lv_room (Nat.le_of_ble_eq_true rfl)) dX8_panel_64 ⟨Nat.le_of_ble_eq_true rfl, Nat.le_of_ble_eq_true rfl⟩) (fun H locs hr_18 hW hS => ?_)
            have hm := hm0
            clear hm0 hc_18
            refine lv_aload_n hx hb dX8_panel_67 rfl (lv_at hl 0 rfl) ?_
            refine rg_9_1 hx hb hts hown hK hW h0 tw_2_83 dX8_panel_68 ?_
            refine rg_2_3 hx hb hts hown hK hW (rc_t_9_1 hT h0) tw_1_151 dX8_panel_71 ?_
            refine rg_4_0 hx hb hts hown hK hW (rc_t_2_3 hT (rc_t_9_1 hT h0)) tw_1_63 dX8_panel_74 ?_
            refine lv_iload_n hx hb dX8_panel_77 rfl (lv_at hl 1 rfl) ?_
            have hi_19 := (rc_ix hm).1
            replace hm := (rc_ix hm).2
            refine rc_ialdj (j := v1.toNatClampNeg) hx hb hK hW (rc_t_4_0 hT (rc_t_2_3 hT (rc_t_9_1 hT h0))) (by decide) rfl hi_19 rfl dX8_panel_78 ?_
            obtain ⟨w_20, σ_20, hc_20, hm0⟩ := rc_bd_inv hm
            clear hm
            refine rc_cr hS (va_runV (As := [.int (σ_18 (rf (rf (rf a0 1) 3) 0) v1.toNatClampNeg)]) (rest := []) ⟨hx, hb, hml, hown, hts⟩ (k_J4_append_bf812 l hT w_18 (σ_18 (rf (rf (rf a0 1) 3) 0) v1.toNatClampNeg) hr_18 H.size _ _ _ hc_20) (cwV 1 hts (rc_gV tw_6_122 tw_5_16 tw_5_17 tw_1_11 tw_5_18) rfl rfl rfl (by decide +kernel) ⟨Nat.le_of_ble_eq_true rfl, Nat.le_of_ble_eq_true rfl⟩) (rc_preV hT hW hK hE hS hr_18 (by decide) rfl (q := (RJ4, TJ4, 4)) rfl [.int (σ_18 (rf (rf (rf a0 1) 3) 0) v1.toNatClampNeg)]) rfl rfl hl.1 rfl (lv_room (Nat.le_of_ble_eq_true rfl)) dX8_panel_79 ⟨Nat.le_of_ble_eq_true rfl, Nat.le_of_ble_eq_true rfl⟩) (fun H locs hr_20 hW hS => ?_)
            have hm := hm0
            clear hm0 hc_20
            refine lv_pop hx hb dX8_panel_82 rfl ?_
            obtain ⟨v1_21, ev⟩ : ∃ y : Int32, y = (v1 + 1) := ⟨_, rfl⟩
            replace hm := rc_lt_at hm ev
            refine lv_iinc (v := v1_21) (lv' := [(1, .int v1_21), (0, .ref a0)]) hx hb dX8_panel_83 hl (k := 1) rfl (by rw [ev]; rfl) (by decide) rfl (fun ls hl => ?_)
            clear ev
            refine lv_goto (tgt := 10) hx hb dX8_panel_86 (by decide) ?_
            exact ih v1_21 σ_20 _ _ _ hm hW hS (lv_sub hl [1, 0] rfl)
  unfold f_X8_panel at hm
  refine lv_aload_n hx hb dX8_panel_0 rfl (lv_at hl 0 rfl) ?_
  refine rg_9_8 hx hb hts hown hK hW h0 tw_2_90 dX8_panel_1 ?_
  refine lv_iconst (v := 0) hx hb dX8_panel_4 (by decide) ?_
  obtain ⟨w_1, σ_1, hc_1, hm0⟩ := rc_bd_inv hm
  clear hm
  refine rc_cv hS (va_runV (As := [.int (0 : Int32)]) (rest := []) ⟨hx, hb, hml, hown, hts⟩ (k_J4_setLength_d00df l hT (rf a0 8) (0 : Int32) (rc_t_9_8 hT h0) s.heap.size _ _ _ hc_1) (cwV 1 hts (rc_gV tw_6_57 tw_6_58 tw_6_59 tw_1_11 tw_6_60) rfl rfl rfl (by decide +kernel) ⟨Nat.le_of_ble_eq_true rfl, Nat.le_of_ble_eq_true rfl⟩) (rc_preV hT hW hK hE hS (rc_t_9_8 hT h0) (by decide) rfl (q := (RJ4, TJ4, 4)) rfl [.int (0 : Int32)]) rfl rfl hl.1 rfl (lv_room (Nat.le_of_ble_eq_true rfl)) dX8_panel_5 ⟨Nat.le_of_ble_eq_true rfl, Nat.le_of_ble_eq_true rfl⟩) (fun H locs hW hS => ?_)
  have hm := hm0
  clear hm0 hc_1
  refine lv_iconst (v := 0) hx hb dX8_panel_8 (by decide) ?_
  refine lv_istore_n (lv' := [(1, .int (0 : Int32)), (0, .ref a0)]) hx hb dX8_panel_9 rfl hl (by decide) rfl (fun ls hl => ?_)
  refine lp_10 _ (fun v1_25 σ_26 H locs ls hm hW hS hl => ?_) rc_fu (0 : Int32) σ_1 _ _ _ hm hW hS (lv_sub hl [1, 0] rfl)
  refine lv_aload_n hx hb dX8_panel_89 rfl (lv_at hl 0 rfl) ?_
  refine rg_9_8 hx hb hts hown hK hW h0 tw_2_90 dX8_panel_90 ?_
  obtain ⟨w_27, σ_27, hc_27, hm0⟩ := rc_bd_inv hm
  clear hm
  refine rc_ci hS (va_runV (As := []) (rest := []) ⟨hx, hb, hml, hown, hts⟩ (k_J4_length_8abf5 l hT (rf a0 8) (rc_t_9_8 hT h0) H.size _ _ _ hc_27) (cwV 0 hts (rc_gV tw_6_123 tw_5_62 tw_7_109 tw_1_11 tw_5_63) rfl rfl rfl (by decide +kernel) ⟨Nat.le_of_ble_eq_true rfl, Nat.le_of_ble_eq_true rfl⟩) (rc_preV hT hW hK hE hS (rc_t_9_8 hT h0) (by decide) rfl (q := (RJ4, TJ4, 4)) rfl []) rfl rfl hl.1 rfl (lv_room (Nat.le_of_ble_eq_true rfl)) dX8_panel_93 ⟨Nat.le_of_ble_eq_true rfl, Nat.le_of_ble_eq_true rfl⟩) (fun H locs hW hS => ?_)
  have hm := hm0
  clear hm0 hc_27
  exact rc_eiret hx hb hr hlocks hW hS (Nat.le_of_ble_eq_true rfl) (Nat.le_of_ble_eq_true rfl) hm dX8_panel_96
set_option maxHeartbeats 4000000 in
set_option maxRecDepth 100000 in
theorem k_X8_hailShare (l : Launch) (hl9 : l.stackTraces = false) {Y : rc_Y} {sh : Nat → Nat} {rf : rc_F} (hT : rc_T Y sh rf) (a0 : Nat) (h0 : sh a0 = 9) (sz : Nat) (σ σ' : rc_S) (k : Nat) (r : UInt32) (hm : f_X8_hailShare rf a0 σ = some (k, r, σ')) : vx_Met l yX8_hailShare (Cond.code yX8_hailShare cX8_hailShare 2 (some .float) :: rc_big) ({ frames := 6, cells := 1, slots := 6, locals := 81 } : Room) (rc_P Y sh rf σ sz [.ref a0]) (va_Qf (fun (r' : UInt32) (_ : Unit) => k = 0 ∧ r' = r) (fun _ t => rc_W Y sh rf σ' t.heap) (rc_A sh sz)) (rc_XC Y sh rf σ' k sz) 1 6 (rc_A sh sz) := by
  refine vx_ofW (cc := cX8_hailShare) (maxL := 2) (ret := (some .float)) (by decide +kernel) rfl ?_
  intro p e s m args below meth c s₁ B hml hout hv
  obtain ⟨rfl, hsz, hW, hK, hE⟩ := hv
  have hx := B.exec
  have hb := B.bytes
  have hr := B.returns
  have hts : ∀ w ∈ rc_big, w.before _ s = true := fun w h => atoms_spec (ws := Cond.code yX8_hailShare cX8_hailShare 2 (some .float) :: rc_big) B.pre w (List.mem_cons_of_mem _ h)
  have hown : s.vm.findClass RX8 = some m.cls := findClass_of_methodNamed B.named
  have hlocks := B.notSynchronized
  clear B
  subst hsz
  have hS : va_S (rc_A sh s.heap.size) s.heap s.heap [] := va_S.rf
  have hl := lv_entry ([.ref a0]) (n := 2) (Nat.le_of_ble_eq_true rfl)
  rw [lg_entry_eq]
  generalize (lg_sl ([.ref a0]) ++ List.replicate (2 - (lg_sl ([.ref a0])).length) Slot.unset).toArray = ls at hl ⊢
  have hl : lv_has ls 2 [(0, .ref a0)] := hl
  unfold f_X8_hailShare at hm
  refine lv_aload_n hx hb dX8_hailShare_0 rfl (lv_at hl 0 rfl) ?_
  refine rg_9_1 hx hb hts hown hK hW h0 tw_2_83 dX8_hailShare_1 ?_
  obtain ⟨w_1, σ_1, hc_1, hm0⟩ := rc_bd_inv hm
  clear hm
  refine rc_ci hS (va_runV (As := []) (rest := []) ⟨hx, hb, hml, hown, hts⟩ (k_X1_litresInBarrels l hT (rf a0 1) (rc_t_9_1 hT h0) s.heap.size _ _ _ hc_1) (cwV 0 hts (rc_gV tw_3_125 tw_3_126 tw_3_127 tw_1_3 tw_3_128) rfl rfl rfl (by decide +kernel) ⟨Nat.le_of_ble_eq_true rfl, Nat.le_of_ble_eq_true rfl⟩) (rc_preV hT hW hK hE hS (rc_t_9_1 hT h0) (by decide) rfl (q := (RX1, TX1, 14)) rfl []) rfl rfl hl.1 rfl (lv_room (Nat.le_of_ble_eq_true rfl)) dX8_hailShare_4 ⟨Nat.le_of_ble_eq_true rfl, Nat.le_of_ble_eq_true rfl⟩) (fun H locs hW hS => ?_)
  have hm := hm0
  clear hm0 hc_1
  refine lv_istore_n (lv' := [(1, .int w_1), (0, .ref a0)]) hx hb dX8_hailShare_7 rfl hl (by decide) rfl (fun ls hl => ?_)
  refine lv_iload_n hx hb dX8_hailShare_8 rfl (lv_at hl 0 rfl) ?_
  refine lv_if_ne (tgt := 20) hx hb dX8_hailShare_9 (by decide) (fun c_4 => ?_) (fun c_4 => ?_)
  · replace hm := rc_f hm c_4
    refine lv_aload_n hx hb dX8_hailShare_20 rfl (lv_at hl 1 rfl) ?_
    refine rg_9_1 hx hb hts hown hK hW h0 tw_2_83 dX8_hailShare_21 ?_
    obtain ⟨w_2, σ_2, hc_2, hm0⟩ := rc_bd_inv hm
    clear hm
    refine rc_ci hS (va_runV (As := []) (rest := []) ⟨hx, hb, hml, hown, hts⟩ (k_X1_hailInBarrels l hT (rf a0 1) (rc_t_9_1 hT h0) H.size _ _ _ hc_2) (cwV 0 hts (rc_gV tw_7_63 tw_7_64 tw_7_65 tw_1_3 tw_7_66) rfl rfl rfl (by decide +kernel) ⟨Nat.le_of_ble_eq_true rfl, Nat.le_of_ble_eq_true rfl⟩) (rc_preV hT hW hK hE hS (rc_t_9_1 hT h0) (by decide) rfl (q := (RX1, TX1, 14)) rfl []) rfl rfl hl.1 rfl (lv_room (Nat.le_of_ble_eq_true rfl)) dX8_hailShare_24 ⟨Nat.le_of_ble_eq_true rfl, Nat.le_of_ble_eq_true rfl⟩) (fun H locs hW hS => ?_)
    have hm := hm0
    clear hm0 hc_2
    refine lv_i2f hx hb dX8_hailShare_27 ?_
    refine lv_iload_n hx hb dX8_hailShare_28 rfl (lv_at hl 0 rfl) ?_
    refine lv_i2f hx hb dX8_hailShare_29 ?_
    have hz_3 : vf_n32 (FP.fdiv (FP.i2f w_2) (FP.i2f w_1)) := (rc_dc hm).1
    replace hm := (rc_dc hm).2
    refine lv_fdiv hx hb dX8_hailShare_30 hz_3 ?_
    exact rc_xfret hx hb hr hlocks hW hS (Nat.le_of_ble_eq_true rfl) (Nat.le_of_ble_eq_true rfl) hm dX8_hailShare_31
  · replace hm := rc_t hm c_4
    exact rc_throw (n := 6) hx hb hl9 hT hE hW hS hts hown rfl (by decide) (by decide) rc_hk_6 rc_hi_6 (rc_hat_6 hts hE) rc_hgd_6 (hl.1.trans hml.symm) dX8_hailShare_12 dX8_hailShare_15 dX8_hailShare_16 dX8_hailShare_19 hout ⟨Nat.le_of_ble_eq_true rfl, Nat.le_of_ble_eq_true rfl, Nat.le_of_ble_eq_true rfl, Nat.le_of_ble_eq_true rfl⟩ hlocks (Nat.le_of_ble_eq_true rfl) (Nat.le_of_ble_eq_true rfl) hm
set_option maxHeartbeats 4000000 in
set_option maxRecDepth 100000 in
theorem k_X8_account (l : Launch) (hl9 : l.stackTraces = false) {Y : rc_Y} {sh : Nat → Nat} {rf : rc_F} (hT : rc_T Y sh rf) (a0 : Nat) (u1 : Int32) (h0 : sh a0 = 9) (sz : Nat) (σ σ' : rc_S) (k : Nat) (r : Int32) (hm : f_X8_account rf a0 u1 σ = some (k, r, σ')) : vx_Met l yX8_account (Cond.code yX8_account cX8_account 2 (some .int) :: rc_big) ({ frames := 6, cells := 1, slots := 6, locals := 81 } : Room) (rc_P Y sh rf σ sz [.ref a0, .int u1]) (va_Qi (fun (r' : Int32) (_ : Unit) => k = 0 ∧ r' = r) (fun _ t => rc_W Y sh rf σ' t.heap) (rc_A sh sz)) (rc_XC Y sh rf σ' k sz) 1 6 (rc_A sh sz) := by
  refine vx_ofW (cc := cX8_account) (maxL := 2) (ret := (some .int)) (by decide +kernel) rfl ?_
  intro p e s m args below meth c s₁ B hml hout hv
  obtain ⟨rfl, hsz, hW, hK, hE⟩ := hv
  have hx := B.exec
  have hb := B.bytes
  have hr := B.returns
  have hts : ∀ w ∈ rc_big, w.before _ s = true := fun w h => atoms_spec (ws := Cond.code yX8_account cX8_account 2 (some .int) :: rc_big) B.pre w (List.mem_cons_of_mem _ h)
  have hown : s.vm.findClass RX8 = some m.cls := findClass_of_methodNamed B.named
  have hlocks := B.notSynchronized
  clear B
  subst hsz
  have hS : va_S (rc_A sh s.heap.size) s.heap s.heap [] := va_S.rf
  have hl := lv_entry ([.ref a0, .int u1]) (n := 2) (Nat.le_of_ble_eq_true rfl)
  rw [lg_entry_eq]
  generalize (lg_sl ([.ref a0, .int u1]) ++ List.replicate (2 - (lg_sl ([.ref a0, .int u1])).length) Slot.unset).toArray = ls at hl ⊢
  have hl : lv_has ls 2 [(0, .ref a0), (1, .int u1)] := hl
  unfold f_X8_account at hm
  refine lv_iload_n hx hb dX8_account_0 rfl (lv_at hl 1 rfl) ?_
  by_cases c_1 : u1 = (0 : Int32)
  · replace hm := rc_t hm c_1
    refine lv_tableIn (off := 63) (tgt := 64) hx hb dX8_account_1 (by rw [c_1]; decide) (by rw [c_1]; decide) (by rw [c_1]; decide) (by decide) ?_
    refine lv_aload_n hx hb dX8_account_64 rfl (lv_at hl 0 rfl) ?_
    refine rg_9_1 hx hb hts hown hK hW h0 tw_2_83 dX8_account_65 ?_
    refine rg_2_2 hx hb hts hown hK hW (rc_t_9_1 hT h0) tw_1_148 dX8_account_68 ?_
    exact rc_xiret hx hb hr hlocks hW hS (Nat.le_of_ble_eq_true rfl) (Nat.le_of_ble_eq_true rfl) hm dX8_account_71
  · replace hm := rc_f hm c_1
    by_cases c_2 : u1 = (1 : Int32)
    · replace hm := rc_t hm c_2
      refine lv_tableIn (off := 71) (tgt := 72) hx hb dX8_account_1 (by rw [c_2]; decide) (by rw [c_2]; decide) (by rw [c_2]; decide) (by decide) ?_
      refine lv_aload_n hx hb dX8_account_72 rfl (lv_at hl 0 rfl) ?_
      refine rg_9_1 hx hb hts hown hK hW h0 tw_2_83 dX8_account_73 ?_
      obtain ⟨w_3, σ_3, hc_3, hm0⟩ := rc_bd_inv hm
      clear hm
      refine rc_ci hS (va_runV (As := []) (rest := []) ⟨hx, hb, hml, hown, hts⟩ (k_X1_litresInBarrels l hT (rf a0 1) (rc_t_9_1 hT h0) s.heap.size _ _ _ hc_3) (cwV 0 hts (rc_gV tw_3_125 tw_3_126 tw_3_127 tw_1_3 tw_3_128) rfl rfl rfl (by decide +kernel) ⟨Nat.le_of_ble_eq_true rfl, Nat.le_of_ble_eq_true rfl⟩) (rc_preV hT hW hK hE hS (rc_t_9_1 hT h0) (by decide) rfl (q := (RX1, TX1, 14)) rfl []) rfl rfl hl.1 rfl (lv_room (Nat.le_of_ble_eq_true rfl)) dX8_account_76 ⟨Nat.le_of_ble_eq_true rfl, Nat.le_of_ble_eq_true rfl⟩) (fun H locs hW hS => ?_)
      have hm := hm0
      clear hm0 hc_3
      exact rc_xiret hx hb hr hlocks hW hS (Nat.le_of_ble_eq_true rfl) (Nat.le_of_ble_eq_true rfl) hm dX8_account_79
    · replace hm := rc_f hm c_2
      by_cases c_4 : u1 = (2 : Int32)
      · replace hm := rc_t hm c_4
        refine lv_tableIn (off := 79) (tgt := 80) hx hb dX8_account_1 (by rw [c_4]; decide) (by rw [c_4]; decide) (by rw [c_4]; decide) (by decide) ?_
        refine lv_aload_n hx hb dX8_account_80 rfl (lv_at hl 0 rfl) ?_
        refine rg_9_1 hx hb hts hown hK hW h0 tw_2_83 dX8_account_81 ?_
        refine rg_2_6 hx hb hts hown hK hW (rc_t_9_1 hT h0) tw_1_158 dX8_account_84 ?_
        exact rc_xiret hx hb hr hlocks hW hS (Nat.le_of_ble_eq_true rfl) (Nat.le_of_ble_eq_true rfl) hm dX8_account_87
      · replace hm := rc_f hm c_4
        by_cases c_5 : u1 = (3 : Int32)
        · replace hm := rc_t hm c_5
          refine lv_tableIn (off := 87) (tgt := 88) hx hb dX8_account_1 (by rw [c_5]; decide) (by rw [c_5]; decide) (by rw [c_5]; decide) (by decide) ?_
          refine lv_aload_n hx hb dX8_account_88 rfl (lv_at hl 0 rfl) ?_
          refine rg_9_1 hx hb hts hown hK hW h0 tw_2_83 dX8_account_89 ?_
          refine rg_2_3 hx hb hts hown hK hW (rc_t_9_1 hT h0) tw_1_151 dX8_account_92 ?_
          refine rg_4_2 hx hb hts hown hK hW (rc_t_2_3 hT (rc_t_9_1 hT h0)) tw_1_68 dX8_account_95 ?_
          exact rc_xiret hx hb hr hlocks hW hS (Nat.le_of_ble_eq_true rfl) (Nat.le_of_ble_eq_true rfl) hm dX8_account_98
        · replace hm := rc_f hm c_5
          by_cases c_6 : u1 = (4 : Int32)
          · replace hm := rc_t hm c_6
            refine lv_tableIn (off := 98) (tgt := 99) hx hb dX8_account_1 (by rw [c_6]; decide) (by rw [c_6]; decide) (by rw [c_6]; decide) (by decide) ?_
            refine lv_aload_n hx hb dX8_account_99 rfl (lv_at hl 0 rfl) ?_
            refine rg_9_1 hx hb hts hown hK hW h0 tw_2_83 dX8_account_100 ?_
            refine rg_2_7 hx hb hts hown hK hW (rc_t_9_1 hT h0) tw_1_161 dX8_account_103 ?_
            exact rc_xiret hx hb hr hlocks hW hS (Nat.le_of_ble_eq_true rfl) (Nat.le_of_ble_eq_true rfl) hm dX8_account_106
          · replace hm := rc_f hm c_6
            by_cases c_7 : u1 = (5 : Int32)
            · replace hm := rc_t hm c_7
              refine lv_tableIn (off := 106) (tgt := 107) hx hb dX8_account_1 (by rw [c_7]; decide) (by rw [c_7]; decide) (by rw [c_7]; decide) (by decide) ?_
              refine lv_aload_n hx hb dX8_account_107 rfl (lv_at hl 0 rfl) ?_
              refine rg_9_1 hx hb hts hown hK hW h0 tw_2_83 dX8_account_108 ?_
              refine rg_2_5 hx hb hts hown hK hW (rc_t_9_1 hT h0) tw_1_155 dX8_account_111 ?_
              exact rc_xiret hx hb hr hlocks hW hS (Nat.le_of_ble_eq_true rfl) (Nat.le_of_ble_eq_true rfl) hm dX8_account_114
            · replace hm := rc_f hm c_7
              by_cases c_8 : u1 = (6 : Int32)
              · replace hm := rc_t hm c_8
                refine lv_tableIn (off := 114) (tgt := 115) hx hb dX8_account_1 (by rw [c_8]; decide) (by rw [c_8]; decide) (by rw [c_8]; decide) (by decide) ?_
                refine lv_aload_n hx hb dX8_account_115 rfl (lv_at hl 0 rfl) ?_
                refine rg_9_1 hx hb hts hown hK hW h0 tw_2_83 dX8_account_116 ?_
                refine rg_2_10 hx hb hts hown hK hW (rc_t_9_1 hT h0) tw_1_170 dX8_account_119 ?_
                exact rc_xiret hx hb hr hlocks hW hS (Nat.le_of_ble_eq_true rfl) (Nat.le_of_ble_eq_true rfl) hm dX8_account_122
              · replace hm := rc_f hm c_8
                by_cases c_9 : u1 = (7 : Int32)
                · replace hm := rc_t hm c_9
                  refine lv_tableIn (off := 122) (tgt := 123) hx hb dX8_account_1 (by rw [c_9]; decide) (by rw [c_9]; decide) (by rw [c_9]; decide) (by decide) ?_
                  refine lv_aload_n hx hb dX8_account_123 rfl (lv_at hl 0 rfl) ?_
                  refine rg_9_1 hx hb hts hown hK hW h0 tw_2_83 dX8_account_124 ?_
                  refine rg_2_11 hx hb hts hown hK hW (rc_t_9_1 hT h0) tw_1_173 dX8_account_127 ?_
                  exact rc_xiret hx hb hr hlocks hW hS (Nat.le_of_ble_eq_true rfl) (Nat.le_of_ble_eq_true rfl) hm dX8_account_130
                · replace hm := rc_f hm c_9
                  by_cases c_10 : u1 = (8 : Int32)
                  · replace hm := rc_t hm c_10
                    refine lv_tableIn (off := 130) (tgt := 131) hx hb dX8_account_1 (by rw [c_10]; decide) (by rw [c_10]; decide) (by rw [c_10]; decide) (by decide) ?_
                    refine lv_aload_n hx hb dX8_account_131 rfl (lv_at hl 0 rfl) ?_
                    refine rg_9_1 hx hb hts hown hK hW h0 tw_2_83 dX8_account_132 ?_
                    refine rg_2_12 hx hb hts hown hK hW (rc_t_9_1 hT h0) tw_1_176 dX8_account_135 ?_
                    exact rc_xiret hx hb hr hlocks hW hS (Nat.le_of_ble_eq_true rfl) (Nat.le_of_ble_eq_true rfl) hm dX8_account_138
                  · replace hm := rc_f hm c_10
                    by_cases c_11 : u1 = (9 : Int32)
                    · replace hm := rc_t hm c_11
                      refine lv_tableIn (off := 138) (tgt := 139) hx hb dX8_account_1 (by rw [c_11]; decide) (by rw [c_11]; decide) (by rw [c_11]; decide) (by decide) ?_
                      refine lv_aload_n hx hb dX8_account_139 rfl (lv_at hl 0 rfl) ?_
                      refine rg_9_1 hx hb hts hown hK hW h0 tw_2_83 dX8_account_140 ?_
                      refine rg_2_13 hx hb hts hown hK hW (rc_t_9_1 hT h0) tw_1_179 dX8_account_143 ?_
                      exact rc_xiret hx hb hr hlocks hW hS (Nat.le_of_ble_eq_true rfl) (Nat.le_of_ble_eq_true rfl) hm dX8_account_146
                    · replace hm := rc_f hm c_11
                      by_cases c_12 : u1 = (10 : Int32)
                      · replace hm := rc_t hm c_12
                        refine lv_tableIn (off := 146) (tgt := 147) hx hb dX8_account_1 (by rw [c_12]; decide) (by rw [c_12]; decide) (by rw [c_12]; decide) (by decide) ?_
                        refine lv_aload_n hx hb dX8_account_147 rfl (lv_at hl 0 rfl) ?_
                        refine rg_9_5 hx hb hts hown hK hW h0 tw_2_87 dX8_account_148 ?_
                        refine rg_3_2 hx hb hts hown hK hW (rc_t_9_5 hT h0) tw_2_9 dX8_account_151 ?_
                        exact rc_xiret hx hb hr hlocks hW hS (Nat.le_of_ble_eq_true rfl) (Nat.le_of_ble_eq_true rfl) hm dX8_account_154
                      · replace hm := rc_f hm c_12
                        by_cases c_13 : u1 = (11 : Int32)
                        · replace hm := rc_t hm c_13
                          refine lv_tableIn (off := 154) (tgt := 155) hx hb dX8_account_1 (by rw [c_13]; decide) (by rw [c_13]; decide) (by rw [c_13]; decide) (by decide) ?_
                          refine lv_aload_n hx hb dX8_account_155 rfl (lv_at hl 0 rfl) ?_
                          refine rg_9_6 hx hb hts hown hK hW h0 tw_2_88 dX8_account_156 ?_
                          refine rg_7_1 hx hb hts hown hK hW (rc_t_9_6 hT h0) tw_2_25 dX8_account_159 ?_
                          exact rc_xiret hx hb hr hlocks hW hS (Nat.le_of_ble_eq_true rfl) (Nat.le_of_ble_eq_true rfl) hm dX8_account_162
                        · replace hm := rc_f hm c_13
                          refine rc_tblD (tgt := 163) hx hb dX8_account_1 [0, 1, 2, 3, 4, 5, 6, 7, 8, 9, 10, 11] (by decide +kernel) (by decide +kernel) (rc_nk c_1 (by decide) (rc_nk c_2 (by decide) (rc_nk c_4 (by decide) (rc_nk c_5 (by decide) (rc_nk c_6 (by decide) (rc_nk c_7 (by decide) (rc_nk c_8 (by decide) (rc_nk c_9 (by decide) (rc_nk c_10 (by decide) (rc_nk c_11 (by decide) (rc_nk c_12 (by decide) (rc_nk c_13 (by decide) rc_nk0)))))))))))) (by decide) ?_
                          exact rc_throw (n := 3) hx hb hl9 hT hE hW hS hts hown rfl (by decide) (by decide) rc_hk_3 rc_hi_3 (rc_hat_3 hts hE) rc_hgd_3 (hl.1.trans hml.symm) dX8_account_163 dX8_account_166 dX8_account_167 dX8_account_170 hout ⟨Nat.le_of_ble_eq_true rfl, Nat.le_of_ble_eq_true rfl, Nat.le_of_ble_eq_true rfl, Nat.le_of_ble_eq_true rfl⟩ hlocks (Nat.le_of_ble_eq_true rfl) (Nat.le_of_ble_eq_true rfl) hm
set_option maxHeartbeats 4000000 in
set_option maxRecDepth 100000 in
theorem k_X8_kept (l : Launch) (hl9 : l.stackTraces = false) {Y : rc_Y} {sh : Nat → Nat} {rf : rc_F} (hT : rc_T Y sh rf) (a0 : Nat) (u1 : Int32) (h0 : sh a0 = 9) (sz : Nat) (σ σ' : rc_S) (k : Nat) (r : Int32) (hm : f_X8_kept rf a0 u1 σ = some (k, r, σ')) : vx_Met l yX8_kept (Cond.code yX8_kept cX8_kept 2 (some .int) :: rc_big) ({ frames := 6, cells := 1, slots := 6, locals := 81 } : Room) (rc_P Y sh rf σ sz [.ref a0, .int u1]) (va_Qi (fun (r' : Int32) (_ : Unit) => k = 0 ∧ r' = r) (fun _ t => rc_W Y sh rf σ' t.heap) (rc_A sh sz)) (rc_XC Y sh rf σ' k sz) 1 6 (rc_A sh sz) := by
  refine vx_ofW (cc := cX8_kept) (maxL := 2) (ret := (some .int)) (by decide +kernel) rfl ?_
  intro p e s m args below meth c s₁ B hml hout hv
  obtain ⟨rfl, hsz, hW, hK, hE⟩ := hv
  have hx := B.exec
  have hb := B.bytes
  have hr := B.returns
  have hts : ∀ w ∈ rc_big, w.before _ s = true := fun w h => atoms_spec (ws := Cond.code yX8_kept cX8_kept 2 (some .int) :: rc_big) B.pre w (List.mem_cons_of_mem _ h)
  have hown : s.vm.findClass RX8 = some m.cls := findClass_of_methodNamed B.named
  have hlocks := B.notSynchronized
  clear B
  subst hsz
  have hS : va_S (rc_A sh s.heap.size) s.heap s.heap [] := va_S.rf
  have hl := lv_entry ([.ref a0, .int u1]) (n := 2) (Nat.le_of_ble_eq_true rfl)
  rw [lg_entry_eq]
  generalize (lg_sl ([.ref a0, .int u1]) ++ List.replicate (2 - (lg_sl ([.ref a0, .int u1])).length) Slot.unset).toArray = ls at hl ⊢
  have hl : lv_has ls 2 [(0, .ref a0), (1, .int u1)] := hl
  unfold f_X8_kept at hm
  refine lv_iload_n hx hb dX8_kept_0 rfl (lv_at hl 1 rfl) ?_
  refine lv_iconst (v := (-1)) hx hb dX8_kept_1 (by decide) ?_
  refine lv_icmp_ne (tgt := 13) hx hb dX8_kept_2 (by decide) (fun c_2 => ?_) (fun c_2 => ?_)
  · replace hm := rc_f hm c_2
    refine lv_aload_n hx hb dX8_kept_13 rfl (lv_at hl 0 rfl) ?_
    refine rg_9_5 hx hb hts hown hK hW h0 tw_2_87 dX8_kept_14 ?_
    obtain ⟨w_1, σ_1, hc_1, hm0⟩ := rc_bd_inv hm
    clear hm
    refine rc_cv hS (va_runV (As := []) (rest := []) ⟨hx, hb, hml, hown, hts⟩ (k_X2_keepAside l hT (rf a0 5) (rc_t_9_5 hT h0) s.heap.size _ _ _ hc_1) (cwV 0 hts (rc_gV tw_3_211 tw_3_212 tw_3_213 tw_1_8 tw_3_214) rfl rfl rfl (by decide +kernel) ⟨Nat.le_of_ble_eq_true rfl, Nat.le_of_ble_eq_true rfl⟩) (rc_preV hT hW hK hE hS (rc_t_9_5 hT h0) (by decide) rfl (q := (RX2, TX2, 3)) rfl []) rfl rfl hl.1 rfl (lv_room (Nat.le_of_ble_eq_true rfl)) dX8_kept_17 ⟨Nat.le_of_ble_eq_true rfl, Nat.le_of_ble_eq_true rfl⟩) (fun H locs hW hS => ?_)
    have hm := hm0
    clear hm0 hc_1
    refine lv_iload_n hx hb dX8_kept_20 rfl (lv_at hl 1 rfl) ?_
    exact rc_xiret hx hb hr hlocks hW hS (Nat.le_of_ble_eq_true rfl) (Nat.le_of_ble_eq_true rfl) hm dX8_kept_21
  · replace hm := rc_t hm c_2
    exact rc_throw (n := 1) hx hb hl9 hT hE hW hS hts hown rfl (by decide) (by decide) rc_hk_1 rc_hi_1 (rc_hat_1 hts hE) rc_hgd_1 (hl.1.trans hml.symm) dX8_kept_5 dX8_kept_8 dX8_kept_9 dX8_kept_12 hout ⟨Nat.le_of_ble_eq_true rfl, Nat.le_of_ble_eq_true rfl, Nat.le_of_ble_eq_true rfl, Nat.le_of_ble_eq_true rfl⟩ hlocks (Nat.le_of_ble_eq_true rfl) (Nat.le_of_ble_eq_true rfl) hm
set_option maxHeartbeats 4000000 in
set_option maxRecDepth 100000 in
theorem k_X8_existing (l : Launch) (hl9 : l.stackTraces = false) {Y : rc_Y} {sh : Nat → Nat} {rf : rc_F} (hT : rc_T Y sh rf) (a0 : Nat) (u1 : Int32) (h0 : sh a0 = 9) (sz : Nat) (σ σ' : rc_S) (k : Nat) (r : Nat) (hm : f_X8_existing rf a0 u1 σ = some (k, r, σ')) : vx_Met l yX8_existing (Cond.code yX8_existing cX8_existing 2 (some (.object "RainCellar$Barrel")) :: rc_big) ({ frames := 6, cells := 1, slots := 6, locals := 81 } : Room) (rc_P Y sh rf σ sz [.ref a0, .int u1]) (va_Qr (fun (_ : Unit) => k = 0) (fun _ a t => (a = r ∧ sh a = 1) ∧ rc_W Y sh rf σ' t.heap) (rc_A sh sz)) (rc_XC Y sh rf σ' k sz) 1 6 (rc_A sh sz) := by
  refine vx_ofW (cc := cX8_existing) (maxL := 2) (ret := (some (.object "RainCellar$Barrel"))) (by decide +kernel) rfl ?_
  intro p e s m args below meth c s₁ B hml hout hv
  obtain ⟨rfl, hsz, hW, hK, hE⟩ := hv
  have hx := B.exec
  have hb := B.bytes
  have hr := B.returns
  have hts : ∀ w ∈ rc_big, w.before _ s = true := fun w h => atoms_spec (ws := Cond.code yX8_existing cX8_existing 2 (some (.object "RainCellar$Barrel")) :: rc_big) B.pre w (List.mem_cons_of_mem _ h)
  have hown : s.vm.findClass RX8 = some m.cls := findClass_of_methodNamed B.named
  have hlocks := B.notSynchronized
  clear B
  subst hsz
  have hS : va_S (rc_A sh s.heap.size) s.heap s.heap [] := va_S.rf
  have hl := lv_entry ([.ref a0, .int u1]) (n := 2) (Nat.le_of_ble_eq_true rfl)
  rw [lg_entry_eq]
  generalize (lg_sl ([.ref a0, .int u1]) ++ List.replicate (2 - (lg_sl ([.ref a0, .int u1])).length) Slot.unset).toArray = ls at hl ⊢
  have hl : lv_has ls 2 [(0, .ref a0), (1, .int u1)] := hl
  unfold f_X8_existing at hm
  refine lv_aload_n hx hb dX8_existing_0 rfl (lv_at hl 0 rfl) ?_
  refine rg_9_1 hx hb hts hown hK hW h0 tw_2_83 dX8_existing_1 ?_
  refine lv_iload_n hx hb dX8_existing_4 rfl (lv_at hl 1 rfl) ?_
  obtain ⟨w_1, σ_1, hc_1, hm0⟩ := rc_bd_inv hm
  clear hm
  refine rc_ci hS (va_runV (As := [.int u1]) (rest := []) ⟨hx, hb, hml, hown, hts⟩ (k_X1_hasBarrel l hT (rf a0 1) u1 (rc_t_9_1 hT h0) s.heap.size _ _ _ hc_1) (cwV 1 hts (rc_gV tw_2_213 tw_2_214 tw_2_215 tw_1_3 tw_2_216) rfl rfl rfl (by decide +kernel) ⟨Nat.le_of_ble_eq_true rfl, Nat.le_of_ble_eq_true rfl⟩) (rc_preV hT hW hK hE hS (rc_t_9_1 hT h0) (by decide) rfl (q := (RX1, TX1, 14)) rfl [.int u1]) rfl rfl hl.1 rfl (lv_room (Nat.le_of_ble_eq_true rfl)) dX8_existing_5 ⟨Nat.le_of_ble_eq_true rfl, Nat.le_of_ble_eq_true rfl⟩) (fun H locs hW hS => ?_)
  have hm := hm0
  clear hm0 hc_1
  refine lv_if_ne (tgt := 19) hx hb dX8_existing_8 (by decide) (fun c_3 => ?_) (fun c_3 => ?_)
  · replace hm := rc_f hm c_3
    refine lv_aload_n hx hb dX8_existing_19 rfl (lv_at hl 0 rfl) ?_
    refine rg_9_1 hx hb hts hown hK hW h0 tw_2_83 dX8_existing_20 ?_
    refine rg_2_1 hx hb hts hown hK hW (rc_t_9_1 hT h0) tw_1_145 dX8_existing_23 ?_
    refine lv_iload_n hx hb dX8_existing_26 rfl (lv_at hl 1 rfl) ?_
    have hi_2 := (rc_ix hm).1
    replace hm := (rc_ix hm).2
    refine rc_aald hx hb hK hW (rc_t_2_1 hT (rc_t_9_1 hT h0)) (by decide) rfl 4 rfl hi_2 dX8_existing_27 ?_
    exact rc_xaret hx hb hr hlocks hW hS (Nat.le_of_ble_eq_true rfl) (Nat.le_of_ble_eq_true rfl) (rc_t_25 hT (rc_t_2_1 hT (rc_t_9_1 hT h0)) hi_2) hm dX8_existing_28
  · replace hm := rc_t hm c_3
    exact rc_throw (n := 2) hx hb hl9 hT hE hW hS hts hown rfl (by decide) (by decide) rc_hk_2 rc_hi_2 (rc_hat_2 hts hE) rc_hgd_2 (hl.1.trans hml.symm) dX8_existing_11 dX8_existing_14 dX8_existing_15 dX8_existing_18 hout ⟨Nat.le_of_ble_eq_true rfl, Nat.le_of_ble_eq_true rfl, Nat.le_of_ble_eq_true rfl, Nat.le_of_ble_eq_true rfl⟩ hlocks (Nat.le_of_ble_eq_true rfl) (Nat.le_of_ble_eq_true rfl) hm
set_option maxHeartbeats 4000000 in
set_option maxRecDepth 100000 in
theorem k_X8_filled (l : Launch) (hl9 : l.stackTraces = false) {Y : rc_Y} {sh : Nat → Nat} {rf : rc_F} (hT : rc_T Y sh rf) (a0 : Nat) (u1 : Int32) (h0 : sh a0 = 9) (sz : Nat) (σ σ' : rc_S) (k : Nat) (r : Nat) (hm : f_X8_filled rf a0 u1 σ = some (k, r, σ')) : vx_Met l yX8_filled (Cond.code yX8_filled cX8_filled 3 (some (.object "RainCellar$Barrel")) :: rc_big) ({ frames := 7, cells := 2, slots := 12, locals := 102 } : Room) (rc_P Y sh rf σ sz [.ref a0, .int u1]) (va_Qr (fun (_ : Unit) => k = 0) (fun _ a t => (a = r ∧ sh a = 1) ∧ rc_W Y sh rf σ' t.heap) (rc_A sh sz)) (rc_XC Y sh rf σ' k sz) 2 12 (rc_A sh sz) := by
  refine vx_ofW (cc := cX8_filled) (maxL := 3) (ret := (some (.object "RainCellar$Barrel"))) (by decide +kernel) rfl ?_
  intro p e s m args below meth c s₁ B hml hout hv
  obtain ⟨rfl, hsz, hW, hK, hE⟩ := hv
  have hx := B.exec
  have hb := B.bytes
  have hr := B.returns
  have hts : ∀ w ∈ rc_big, w.before _ s = true := fun w h => atoms_spec (ws := Cond.code yX8_filled cX8_filled 3 (some (.object "RainCellar$Barrel")) :: rc_big) B.pre w (List.mem_cons_of_mem _ h)
  have hown : s.vm.findClass RX8 = some m.cls := findClass_of_methodNamed B.named
  have hlocks := B.notSynchronized
  clear B
  subst hsz
  have hS : va_S (rc_A sh s.heap.size) s.heap s.heap [] := va_S.rf
  have hl := lv_entry ([.ref a0, .int u1]) (n := 3) (Nat.le_of_ble_eq_true rfl)
  rw [lg_entry_eq]
  generalize (lg_sl ([.ref a0, .int u1]) ++ List.replicate (3 - (lg_sl ([.ref a0, .int u1])).length) Slot.unset).toArray = ls at hl ⊢
  have hl : lv_has ls 3 [(0, .ref a0), (1, .int u1)] := hl
  unfold f_X8_filled at hm
  refine lv_aload_n hx hb dX8_filled_0 rfl (lv_at hl 0 rfl) ?_
  refine lv_iload_n hx hb dX8_filled_1 rfl (lv_at hl 1 rfl) ?_
  obtain ⟨k_1, w_1, σ_1, hc_1, hm0, hk_1⟩ := rc_bx_inv hm
  clear hm
  refine rc_xcr hout hlocks hS hk_1 (Nat.le_of_ble_eq_true rfl) (Nat.le_of_ble_eq_true rfl) (vx_runV (As := [.int u1]) (rest := []) ⟨hx, hb, hml, hown, hts⟩ (k_X8_existing l hl9 hT a0 u1 h0 s.heap.size _ _ _ _ hc_1) (cwV 1 hts (rc_gV tw_2_209 tw_2_211 tw_p_2 tw_1_1 tw_2_212) rfl rfl rfl (by decide +kernel) ⟨Nat.le_of_ble_eq_true rfl, Nat.le_of_ble_eq_true rfl⟩) (rc_preV hT hW hK hE hS h0 (by decide) rfl (q := (RX8, TX8, 9)) rfl [.int u1]) rfl rfl hl.1 rfl (lv_room (Nat.le_of_ble_eq_true rfl)) dX8_filled_2 ⟨Nat.le_of_ble_eq_true rfl, Nat.le_of_ble_eq_true rfl⟩) (fun H locs h0_1 hr_1 hW hS => ?_)
  have hm := hm0 h0_1
  clear hm0 hc_1 hk_1
  refine lv_astore_n (lv' := [(2, .ref w_1), (0, .ref a0), (1, .int u1)]) hx hb dX8_filled_5 rfl hl (by decide) rfl (fun ls hl => ?_)
  refine lv_aload_n hx hb dX8_filled_6 rfl (lv_at hl 0 rfl) ?_
  obtain ⟨w_2, σ_2, hc_2, hm0⟩ := rc_bd_inv hm
  clear hm
  refine rc_ci hS (va_runV (As := []) (rest := []) ⟨hx, hb, hml, hown, hts⟩ (k_X0_isEmpty l hT w_1 hr_1 H.size _ _ _ hc_2) (cwV 0 hts (rc_gV tw_2_238 tw_2_239 tw_3_0 tw_1_5 tw_3_1) rfl rfl rfl (by decide +kernel) ⟨Nat.le_of_ble_eq_true rfl, Nat.le_of_ble_eq_true rfl⟩) (rc_preV hT hW hK hE hS hr_1 (by decide) rfl (q := (RX0, TX0, 6)) rfl []) rfl rfl hl.1 rfl (lv_room (Nat.le_of_ble_eq_true rfl)) dX8_filled_7 ⟨Nat.le_of_ble_eq_true rfl, Nat.le_of_ble_eq_true rfl⟩) (fun H locs hW hS => ?_)
  have hm := hm0
  clear hm0 hc_2
  refine lv_if_eq (tgt := 21) hx hb dX8_filled_10 (by decide) (fun c_3 => ?_) (fun c_3 => ?_)
  · replace hm := rc_t hm c_3
    refine lv_aload_n hx hb dX8_filled_21 rfl (lv_at hl 0 rfl) ?_
    exact rc_xaret hx hb hr hlocks hW hS (Nat.le_of_ble_eq_true rfl) (Nat.le_of_ble_eq_true rfl) hr_1 hm dX8_filled_22
  · replace hm := rc_f hm c_3
    exact rc_throw (n := 4) hx hb hl9 hT hE hW hS hts hown rfl (by decide) (by decide) rc_hk_4 rc_hi_4 (rc_hat_4 hts hE) rc_hgd_4 (hl.1.trans hml.symm) dX8_filled_13 dX8_filled_16 dX8_filled_17 dX8_filled_20 hout ⟨Nat.le_of_ble_eq_true rfl, Nat.le_of_ble_eq_true rfl, Nat.le_of_ble_eq_true rfl, Nat.le_of_ble_eq_true rfl⟩ hlocks (Nat.le_of_ble_eq_true rfl) (Nat.le_of_ble_eq_true rfl) hm
set_option maxHeartbeats 4000000 in
set_option maxRecDepth 100000 in
theorem k_X8_isOutside (l : Launch) {Y : rc_Y} {sh : Nat → Nat} {rf : rc_F} (hT : rc_T Y sh rf) (u0 : Int32) (u1 : Int32) (u2 : Int32) (sz : Nat) (σ σ' : rc_S) (r : Int32) (hm : f_X8_isOutside rf u0 u1 u2 σ = some (r, σ')) : Met l yX8_isOutside (Cond.code yX8_isOutside cX8_isOutside 3 (some .boolean) :: rc_big) ({ frames := 0, cells := 0, slots := 0, locals := 0 } : Room) (rc_P Y sh rf σ sz [.int u0, .int u1, .int u2]) (va_Qi (fun (r' : Int32) (_ : Unit) => r' = r) (fun _ t => rc_W Y sh rf σ' t.heap) (rc_A sh sz)) 0 0 (rc_A sh sz) := by
  refine Met.ofW (cc := cX8_isOutside) (maxL := 3) (ret := (some .boolean)) (by decide +kernel) rfl ?_
  intro p e s m args below meth c s₁ B hml hv
  obtain ⟨rfl, hsz, hW, hK, hE⟩ := hv
  have hx := B.exec
  have hb := B.bytes
  have hr := B.returns
  have hts : ∀ w ∈ rc_big, w.before _ s = true := fun w h => atoms_spec (ws := Cond.code yX8_isOutside cX8_isOutside 3 (some .boolean) :: rc_big) B.pre w (List.mem_cons_of_mem _ h)
  have hown : s.vm.findClass RX8 = some m.cls := findClass_of_methodNamed B.named
  have hlocks := B.notSynchronized
  clear B
  subst hsz
  have hS : va_S (rc_A sh s.heap.size) s.heap s.heap [] := va_S.rf
  have hl := lv_entry ([.int u0, .int u1, .int u2]) (n := 3) (Nat.le_of_ble_eq_true rfl)
  rw [lg_entry_eq]
  generalize (lg_sl ([.int u0, .int u1, .int u2]) ++ List.replicate (3 - (lg_sl ([.int u0, .int u1, .int u2])).length) Slot.unset).toArray = ls at hl ⊢
  have hl : lv_has ls 3 [(0, .int u0), (1, .int u1), (2, .int u2)] := hl
  unfold f_X8_isOutside at hm
  refine lv_iload_n hx hb dX8_isOutside_0 rfl (lv_at hl 0 rfl) ?_
  refine lv_iload_n hx hb dX8_isOutside_1 rfl (lv_at hl 1 rfl) ?_
  refine lv_icmp_lt (tgt := 10) hx hb dX8_isOutside_2 (by decide) (fun c_2 => ?_) (fun c_2 => ?_)
  · replace hm := rc_t hm c_2
    refine lv_iconst (v := 1) hx hb dX8_isOutside_10 (by decide) ?_
    refine lv_goto (tgt := 15) hx hb dX8_isOutside_11 (by decide) ?_
    exact rc_ezret hx hb hr hlocks hW hS (Nat.le_of_ble_eq_true rfl) (Nat.le_of_ble_eq_true rfl) rfl hm dX8_isOutside_15
  · replace hm := rc_f hm c_2
    refine lv_iload_n hx hb dX8_isOutside_5 rfl (lv_at hl 0 rfl) ?_
    refine lv_iload_n hx hb dX8_isOutside_6 rfl (lv_at hl 2 rfl) ?_
    refine lv_icmp_le (tgt := 14) hx hb dX8_isOutside_7 (by decide) (fun c_1 => ?_) (fun c_1 => ?_)
    · replace hm := rc_t hm c_1
      refine lv_iconst (v := 0) hx hb dX8_isOutside_14 (by decide) ?_
      exact rc_ezret hx hb hr hlocks hW hS (Nat.le_of_ble_eq_true rfl) (Nat.le_of_ble_eq_true rfl) rfl hm dX8_isOutside_15
    · replace hm := rc_f hm c_1
      refine lv_iconst (v := 1) hx hb dX8_isOutside_10 (by decide) ?_
      refine lv_goto (tgt := 15) hx hb dX8_isOutside_11 (by decide) ?_
      exact rc_ezret hx hb hr hlocks hW hS (Nat.le_of_ble_eq_true rfl) (Nat.le_of_ble_eq_true rfl) rfl hm dX8_isOutside_15
set_option maxHeartbeats 4000000 in
set_option maxRecDepth 100000 in
theorem k_X8_litresOnRoof (l : Launch) {Y : rc_Y} {sh : Nat → Nat} {rf : rc_F} (hT : rc_T Y sh rf) (u0 : Int32) (u1 : Int32) (sz : Nat) (σ σ' : rc_S) (r : Int32) (hm : f_X8_litresOnRoof rf u0 u1 σ = some (r, σ')) : Met l yX8_litresOnRoof (Cond.code yX8_litresOnRoof cX8_litresOnRoof 2 (some .int) :: rc_big) ({ frames := 0, cells := 0, slots := 0, locals := 0 } : Room) (rc_P Y sh rf σ sz [.int u0, .int u1]) (va_Qi (fun (r' : Int32) (_ : Unit) => r' = r) (fun _ t => rc_W Y sh rf σ' t.heap) (rc_A sh sz)) 0 0 (rc_A sh sz) := by
  refine Met.ofW (cc := cX8_litresOnRoof) (maxL := 2) (ret := (some .int)) (by decide +kernel) rfl ?_
  intro p e s m args below meth c s₁ B hml hv
  obtain ⟨rfl, hsz, hW, hK, hE⟩ := hv
  have hx := B.exec
  have hb := B.bytes
  have hr := B.returns
  have hts : ∀ w ∈ rc_big, w.before _ s = true := fun w h => atoms_spec (ws := Cond.code yX8_litresOnRoof cX8_litresOnRoof 2 (some .int) :: rc_big) B.pre w (List.mem_cons_of_mem _ h)
  have hown : s.vm.findClass RX8 = some m.cls := findClass_of_methodNamed B.named
  have hlocks := B.notSynchronized
  clear B
  subst hsz
  have hS : va_S (rc_A sh s.heap.size) s.heap s.heap [] := va_S.rf
  have hl := lv_entry ([.int u0, .int u1]) (n := 2) (Nat.le_of_ble_eq_true rfl)
  rw [lg_entry_eq]
  generalize (lg_sl ([.int u0, .int u1]) ++ List.replicate (2 - (lg_sl ([.int u0, .int u1])).length) Slot.unset).toArray = ls at hl ⊢
  have hl : lv_has ls 2 [(0, .int u0), (1, .int u1)] := hl
  unfold f_X8_litresOnRoof at hm
  refine lv_iload_n hx hb dX8_litresOnRoof_0 rfl (lv_at hl 0 rfl) ?_
  refine lv_iconst (v := 1) hx hb dX8_litresOnRoof_1 (by decide) ?_
  refine lv_iadd hx hb dX8_litresOnRoof_2 ?_
  refine lv_iload_n hx hb dX8_litresOnRoof_3 rfl (lv_at hl 1 rfl) ?_
  refine lv_imul hx hb dX8_litresOnRoof_4 ?_
  exact rc_eiret hx hb hr hlocks hW hS (Nat.le_of_ble_eq_true rfl) (Nat.le_of_ble_eq_true rfl) hm dX8_litresOnRoof_5
set_option maxHeartbeats 4000000 in
set_option maxRecDepth 100000 in
theorem k_X8_litresOnRoofs (l : Launch) {Y : rc_Y} {sh : Nat → Nat} {rf : rc_F} (hT : rc_T Y sh rf) (u0 : Int32) (sz : Nat) (σ σ' : rc_S) (r : Int32) (hm : f_X8_litresOnRoofs rf u0 σ = some (r, σ')) : Met l yX8_litresOnRoofs (Cond.code yX8_litresOnRoofs cX8_litresOnRoofs 3 (some .int) :: rc_big) ({ frames := 1, cells := 0, slots := 0, locals := 21 } : Room) (rc_P Y sh rf σ sz [.int u0]) (va_Qi (fun (r' : Int32) (_ : Unit) => r' = r) (fun _ t => rc_W Y sh rf σ' t.heap) (rc_A sh sz)) 0 0 (rc_A sh sz) := by
  refine Met.ofW (cc := cX8_litresOnRoofs) (maxL := 3) (ret := (some .int)) (by decide +kernel) rfl ?_
  intro p e s m args below meth c s₁ B hml hv
  obtain ⟨rfl, hsz, hW, hK, hE⟩ := hv
  have hx := B.exec
  have hb := B.bytes
  have hr := B.returns
  have hts : ∀ w ∈ rc_big, w.before _ s = true := fun w h => atoms_spec (ws := Cond.code yX8_litresOnRoofs cX8_litresOnRoofs 3 (some .int) :: rc_big) B.pre w (List.mem_cons_of_mem _ h)
  have hown : s.vm.findClass RX8 = some m.cls := findClass_of_methodNamed B.named
  have hlocks := B.notSynchronized
  clear B
  subst hsz
  have hS : va_S (rc_A sh s.heap.size) s.heap s.heap [] := va_S.rf
  have hl := lv_entry ([.int u0]) (n := 3) (Nat.le_of_ble_eq_true rfl)
  rw [lg_entry_eq]
  generalize (lg_sl ([.int u0]) ++ List.replicate (3 - (lg_sl ([.int u0])).length) Slot.unset).toArray = ls at hl ⊢
  have hl : lv_has ls 3 [(0, .int u0)] := hl
  have lp_4 : ∀ (v0 : Int32) (K : Int32 → Int32 → rc_S → Option (Int32 × rc_S)) (hKK : ∀ (v1 v2 : Int32) (σ : rc_S) (H : Heap) (locs : List Loc) (ls : Array Slot), K v1 v2 σ = some (r, σ') → rc_W Y sh rf σ H → va_S (rc_A sh s.heap.size) s.heap H locs → lv_has ls 3 [(1, .int v1)] → W p l e (headSpec (Cond.code yX8_litresOnRoofs cX8_litresOnRoofs 3 (some .int) :: rc_big) ({ frames := 1, cells := 0, slots := 0, locals := 21 } : Room)).room s m (([.int u0] : List Value).toArray) below meth c H locs 0 0 (MQ below (va_Qi (fun (r' : Int32) (_ : Unit) => r' = r) (fun _ t => rc_W Y sh rf σ' t.heap) (rc_A sh s.heap.size)) ([.int u0] : List Value).toArray s 0 0 (rc_A sh s.heap.size)) (F0 m 23 ls [])) (n : Nat) (v1 v2 : Int32) (σ : rc_S) (H : Heap) (locs : List Loc) (ls : Array Slot), f_X8_litresOnRoofs_4 rf v0 K n v1 v2 σ = some (r, σ') → rc_W Y sh rf σ H → va_S (rc_A sh s.heap.size) s.heap H locs → lv_has ls 3 [(0, .int v0), (1, .int v1), (2, .int v2)] → W p l e (headSpec (Cond.code yX8_litresOnRoofs cX8_litresOnRoofs 3 (some .int) :: rc_big) ({ frames := 1, cells := 0, slots := 0, locals := 21 } : Room)).room s m (([.int u0] : List Value).toArray) below meth c H locs 0 0 (MQ below (va_Qi (fun (r' : Int32) (_ : Unit) => r' = r) (fun _ t => rc_W Y sh rf σ' t.heap) (rc_A sh s.heap.size)) ([.int u0] : List Value).toArray s 0 0 (rc_A sh s.heap.size)) (F0 m 4 ls []) := by
    intro v0 K hKK n
    induction n with
    | zero =>
      intro v1 v2 σ H locs ls hm
      rw [f_X8_litresOnRoofs_4] at hm
      cases hm
    | succ n ih =>
      intro v1 v2 σ H locs ls hm hW hS hl
      rw [f_X8_litresOnRoofs_4] at hm
      refine lv_iload_n hx hb dX8_litresOnRoofs_4 rfl (lv_at hl 2 rfl) ?_
      refine lv_iconst (v := 4) hx hb dX8_litresOnRoofs_5 (by decide) ?_
      refine lv_icmp_ge (tgt := 23) hx hb dX8_litresOnRoofs_6 (by decide) (fun c_4 => ?_) (fun c_4 => ?_)
      · replace hm := rc_t hm c_4
        exact hKK v1 v2 σ _ _ _ hm hW hS (lv_sub hl [1] rfl)
      · replace hm := rc_f hm c_4
        refine lv_iload_n hx hb dX8_litresOnRoofs_9 rfl (lv_at hl 1 rfl) ?_
        refine lv_iload_n hx hb dX8_litresOnRoofs_10 rfl (lv_at hl 2 rfl) ?_
        refine lv_iload_n hx hb dX8_litresOnRoofs_11 rfl (lv_at hl 0 rfl) ?_
        obtain ⟨w_1, σ_1, hc_1, hm0⟩ := rc_bd_inv hm
        clear hm
        refine rc_ci hS (va_runS (As := [.int v2, .int v0]) (rest := [.int v1]) ⟨hx, hb, hml, hown, hts⟩ (k_X8_litresOnRoof l hT v2 v0  H.size _ _ _ hc_1) (va_cwS 2 hts (rc_gS tw_3_117 tw_3_99 tw_1_1 tw_3_100) rfl rfl rfl (by decide +kernel) ⟨Nat.le_of_ble_eq_true rfl, Nat.le_of_ble_eq_true rfl⟩) (rc_preS hT hW hK hE hS [.int v2, .int v0]) rfl rfl hl.1 rfl (lv_room (Nat.le_of_ble_eq_true rfl)) dX8_litresOnRoofs_12 ⟨Nat.le_of_ble_eq_true rfl, Nat.le_of_ble_eq_true rfl⟩) (fun H locs hW hS => ?_)
        have hm := hm0
        clear hm0 hc_1
        refine lv_iadd hx hb dX8_litresOnRoofs_15 ?_
        refine lv_topi (fun v1_2 ev => ?_)
        replace hm := rc_lt_at hm ev
        clear ev
        refine lv_istore_n (lv' := [(1, .int v1_2), (0, .int v0), (2, .int v2)]) hx hb dX8_litresOnRoofs_16 rfl hl (by decide) rfl (fun ls hl => ?_)
        obtain ⟨v2_3, ev⟩ : ∃ y : Int32, y = (v2 + 1) := ⟨_, rfl⟩
        replace hm := rc_lt_at hm ev
        refine lv_iinc (v := v2_3) (lv' := [(2, .int v2_3), (1, .int v1_2), (0, .int v0)]) hx hb dX8_litresOnRoofs_17 hl (k := 2) rfl (by rw [ev]; rfl) (by decide) rfl (fun ls hl => ?_)
        clear ev
        refine lv_goto (tgt := 4) hx hb dX8_litresOnRoofs_20 (by decide) ?_
        exact ih v1_2 v2_3 σ_1 _ _ _ hm hW hS (lv_sub hl [2, 1, 0] rfl)
  unfold f_X8_litresOnRoofs at hm
  refine lv_iconst (v := 0) hx hb dX8_litresOnRoofs_0 (by decide) ?_
  refine lv_istore_n (lv' := [(1, .int (0 : Int32)), (0, .int u0)]) hx hb dX8_litresOnRoofs_1 rfl hl (by decide) rfl (fun ls hl => ?_)
  refine lv_iconst (v := 0) hx hb dX8_litresOnRoofs_2 (by decide) ?_
  refine lv_istore_n (lv' := [(2, .int (0 : Int32)), (1, .int (0 : Int32)), (0, .int u0)]) hx hb dX8_litresOnRoofs_3 rfl hl (by decide) rfl (fun ls hl => ?_)
  refine lp_4 u0 _ (fun v1_5 v2_6 σ_7 H locs ls hm hW hS hl => ?_) rc_fu (0 : Int32) (0 : Int32) σ _ _ _ hm hW hS (lv_sub hl [2, 1, 0] rfl)
  refine lv_iload_n hx hb dX8_litresOnRoofs_23 rfl (lv_at hl 0 rfl) ?_
  exact rc_eiret hx hb hr hlocks hW hS (Nat.le_of_ble_eq_true rfl) (Nat.le_of_ble_eq_true rfl) hm dX8_litresOnRoofs_24
set_option maxHeartbeats 4000000 in
set_option maxRecDepth 100000 in
theorem k_X0_copy (l : Launch) {Y : rc_Y} {sh : Nat → Nat} {rf : rc_F} (hT : rc_T Y sh rf) (a0 : Nat) (q1 : Nat) (h0 : sh a0 = 1) (hq1 : sh q1 = 1) (sz : Nat) (σ σ' : rc_S) (r : Unit) (hm : f_X0_copy rf a0 q1 σ = some (r, σ')) : Met l yX0_copy (Cond.code yX0_copy cX0_copy 2 none :: rc_big) ({ frames := 1, cells := 0, slots := 0, locals := 21 } : Room) (rc_P Y sh rf σ sz [.ref a0, .ref q1]) (va_Qv (fun (_ : Unit) => True) (fun _ t => rc_W Y sh rf σ' t.heap) (rc_A sh sz)) 0 0 (rc_A sh sz) := by
  refine Met.ofW (cc := cX0_copy) (maxL := 2) (ret := none) (by decide +kernel) rfl ?_
  intro p e s m args below meth c s₁ B hml hv
  obtain ⟨rfl, hsz, hW, hK, hE⟩ := hv
  have hx := B.exec
  have hb := B.bytes
  have hr := B.returns
  have hts : ∀ w ∈ rc_big, w.before _ s = true := fun w h => atoms_spec (ws := Cond.code yX0_copy cX0_copy 2 none :: rc_big) B.pre w (List.mem_cons_of_mem _ h)
  have hown : s.vm.findClass RX0 = some m.cls := findClass_of_methodNamed B.named
  have hlocks := B.notSynchronized
  clear B
  subst hsz
  have hS : va_S (rc_A sh s.heap.size) s.heap s.heap [] := va_S.rf
  have hl := lv_entry ([.ref a0, .ref q1]) (n := 2) (Nat.le_of_ble_eq_true rfl)
  rw [lg_entry_eq]
  generalize (lg_sl ([.ref a0, .ref q1]) ++ List.replicate (2 - (lg_sl ([.ref a0, .ref q1])).length) Slot.unset).toArray = ls at hl ⊢
  have hl : lv_has ls 2 [(0, .ref a0), (1, .ref q1)] := hl
  unfold f_X0_copy at hm
  refine lv_aload_n hx hb dX0_copy_0 rfl (lv_at hl 0 rfl) ?_
  refine lv_aload_n hx hb dX0_copy_1 rfl (lv_at hl 1 rfl) ?_
  refine rg_1_0 hx hb hts hown hK hW hq1 tw_1_85 dX0_copy_2 ?_
  refine rp_1_0 hx hb hts hown hK hW hS h0 tw_1_85 dX0_copy_5 (fun σ_1 H locs eσ hW hS => ?_)
  replace hm := rc_lt_at hm eσ
  clear eσ
  refine lv_aload_n hx hb dX0_copy_8 rfl (lv_at hl 0 rfl) ?_
  refine lv_aload_n hx hb dX0_copy_9 rfl (lv_at hl 1 rfl) ?_
  refine rg_1_1 hx hb hts hown hK hW hq1 tw_1_89 dX0_copy_10 ?_
  refine rp_1_1 hx hb hts hown hK hW hS h0 tw_1_89 dX0_copy_13 (fun σ_2 H locs eσ hW hS => ?_)
  replace hm := rc_lt_at hm eσ
  clear eσ
  refine lv_aload_n hx hb dX0_copy_16 rfl (lv_at hl 0 rfl) ?_
  refine lv_aload_n hx hb dX0_copy_17 rfl (lv_at hl 1 rfl) ?_
  refine rg_1_2 hx hb hts hown hK hW hq1 tw_1_93 dX0_copy_18 ?_
  refine rp_1_2 hx hb hts hown hK hW hS h0 tw_1_93 dX0_copy_21 (fun σ_3 H locs eσ hW hS => ?_)
  replace hm := rc_lt_at hm eσ
  clear eσ
  refine lv_aload_n hx hb dX0_copy_24 rfl (lv_at hl 0 rfl) ?_
  refine lv_aload_n hx hb dX0_copy_25 rfl (lv_at hl 1 rfl) ?_
  obtain ⟨w_4, σ_4, hc_4, hm0⟩ := rc_bd_inv hm
  clear hm
  refine rc_cv hS (va_runV (As := [.ref q1]) (rest := []) ⟨hx, hb, hml, hown, hts⟩ (k_X0_copyVintage l hT a0 q1 h0 hq1 H.size _ _ _ hc_4) (cwV 1 hts (rc_gV tw_3_159 tw_3_160 tw_3_161 tw_1_5 tw_3_162) rfl rfl rfl (by decide +kernel) ⟨Nat.le_of_ble_eq_true rfl, Nat.le_of_ble_eq_true rfl⟩) (rc_preV hT hW hK hE hS h0 (by decide) rfl (q := (RX0, TX0, 6)) rfl [.ref q1]) rfl rfl hl.1 rfl (lv_room (Nat.le_of_ble_eq_true rfl)) dX0_copy_26 ⟨Nat.le_of_ble_eq_true rfl, Nat.le_of_ble_eq_true rfl⟩) (fun H locs hW hS => ?_)
  have hm := hm0
  clear hm0 hc_4
  exact rc_evret hx hb hr hlocks hW hS (Nat.le_of_ble_eq_true rfl) (Nat.le_of_ble_eq_true rfl) hm dX0_copy_29
set_option maxHeartbeats 4000000 in
set_option maxRecDepth 100000 in
theorem k_X0_hailPart (l : Launch) {Y : rc_Y} {sh : Nat → Nat} {rf : rc_F} (hT : rc_T Y sh rf) (a0 : Nat) (h0 : sh a0 = 1) (sz : Nat) (σ σ' : rc_S) (r : Int32) (hm : f_X0_hailPart rf a0 σ = some (r, σ')) : Met l yX0_hailPart (Cond.code yX0_hailPart cX0_hailPart 1 (some .int) :: rc_big) ({ frames := 1, cells := 0, slots := 0, locals := 22 } : Room) (rc_P Y sh rf σ sz [.ref a0]) (va_Qi (fun (r' : Int32) (_ : Unit) => r' = r) (fun _ t => rc_W Y sh rf σ' t.heap) (rc_A sh sz)) 0 0 (rc_A sh sz) := by
  refine Met.ofW (cc := cX0_hailPart) (maxL := 1) (ret := (some .int)) (by decide +kernel) rfl ?_
  intro p e s m args below meth c s₁ B hml hv
  obtain ⟨rfl, hsz, hW, hK, hE⟩ := hv
  have hx := B.exec
  have hb := B.bytes
  have hr := B.returns
  have hts : ∀ w ∈ rc_big, w.before _ s = true := fun w h => atoms_spec (ws := Cond.code yX0_hailPart cX0_hailPart 1 (some .int) :: rc_big) B.pre w (List.mem_cons_of_mem _ h)
  have hown : s.vm.findClass RX0 = some m.cls := findClass_of_methodNamed B.named
  have hlocks := B.notSynchronized
  clear B
  subst hsz
  have hS : va_S (rc_A sh s.heap.size) s.heap s.heap [] := va_S.rf
  have hl := lv_entry ([.ref a0]) (n := 1) (Nat.le_of_ble_eq_true rfl)
  rw [lg_entry_eq]
  generalize (lg_sl ([.ref a0]) ++ List.replicate (1 - (lg_sl ([.ref a0])).length) Slot.unset).toArray = ls at hl ⊢
  have hl : lv_has ls 1 [(0, .ref a0)] := hl
  unfold f_X0_hailPart at hm
  refine lv_aload_n hx hb dX0_hailPart_0 rfl (lv_at hl 0 rfl) ?_
  refine lv_iconst (v := 0) hx hb dX0_hailPart_1 (by decide) ?_
  obtain ⟨w_1, σ_1, hc_1, hm0⟩ := rc_bd_inv hm
  clear hm
  refine rc_ci hS (va_runV (As := [.int (0 : Int32)]) (rest := []) ⟨hx, hb, hml, hown, hts⟩ (k_X0_hailPartWith l hT a0 (0 : Int32) h0 s.heap.size _ _ _ hc_1) (cwV 1 hts (rc_gV tw_3_41 tw_3_42 tw_3_43 tw_1_5 tw_3_44) rfl rfl rfl (by decide +kernel) ⟨Nat.le_of_ble_eq_true rfl, Nat.le_of_ble_eq_true rfl⟩) (rc_preV hT hW hK hE hS h0 (by decide) rfl (q := (RX0, TX0, 6)) rfl [.int (0 : Int32)]) rfl rfl hl.1 rfl (lv_room (Nat.le_of_ble_eq_true rfl)) dX0_hailPart_2 ⟨Nat.le_of_ble_eq_true rfl, Nat.le_of_ble_eq_true rfl⟩) (fun H locs hW hS => ?_)
  have hm := hm0
  clear hm0 hc_1
  exact rc_eiret hx hb hr hlocks hW hS (Nat.le_of_ble_eq_true rfl) (Nat.le_of_ble_eq_true rfl) hm dX0_hailPart_5
set_option maxHeartbeats 4000000 in
set_option maxRecDepth 100000 in
theorem k_X0_noteOfTaste (l : Launch) {Y : rc_Y} {sh : Nat → Nat} {rf : rc_F} (hT : rc_T Y sh rf) (a0 : Nat) (u1 : Int32) (h0 : sh a0 = 1) (sz : Nat) (σ σ' : rc_S) (r : Int32) (hm : f_X0_noteOfTaste rf a0 u1 σ = some (r, σ')) : Met l yX0_noteOfTaste (Cond.code yX0_noteOfTaste cX0_noteOfTaste 2 (some .int) :: rc_big) ({ frames := 2, cells := 0, slots := 0, locals := 42 } : Room) (rc_P Y sh rf σ sz [.ref a0, .int u1]) (va_Qi (fun (r' : Int32) (_ : Unit) => r' = r) (fun _ t => rc_W Y sh rf σ' t.heap) (rc_A sh sz)) 0 0 (rc_A sh sz) := by
  refine Met.ofW (cc := cX0_noteOfTaste) (maxL := 2) (ret := (some .int)) (by decide +kernel) rfl ?_
  intro p e s m args below meth c s₁ B hml hv
  obtain ⟨rfl, hsz, hW, hK, hE⟩ := hv
  have hx := B.exec
  have hb := B.bytes
  have hr := B.returns
  have hts : ∀ w ∈ rc_big, w.before _ s = true := fun w h => atoms_spec (ws := Cond.code yX0_noteOfTaste cX0_noteOfTaste 2 (some .int) :: rc_big) B.pre w (List.mem_cons_of_mem _ h)
  have hown : s.vm.findClass RX0 = some m.cls := findClass_of_methodNamed B.named
  have hlocks := B.notSynchronized
  clear B
  subst hsz
  have hS : va_S (rc_A sh s.heap.size) s.heap s.heap [] := va_S.rf
  have hl := lv_entry ([.ref a0, .int u1]) (n := 2) (Nat.le_of_ble_eq_true rfl)
  rw [lg_entry_eq]
  generalize (lg_sl ([.ref a0, .int u1]) ++ List.replicate (2 - (lg_sl ([.ref a0, .int u1])).length) Slot.unset).toArray = ls at hl ⊢
  have hl : lv_has ls 2 [(0, .ref a0), (1, .int u1)] := hl
  unfold f_X0_noteOfTaste at hm
  refine lv_iload_n hx hb dX0_noteOfTaste_0 rfl (lv_at hl 1 rfl) ?_
  refine lv_bipush (v := 100) hx hb dX0_noteOfTaste_1 (by decide) ?_
  refine lv_aload_n hx hb dX0_noteOfTaste_3 rfl (lv_at hl 0 rfl) ?_
  obtain ⟨w_1, σ_1, hc_1, hm0⟩ := rc_bd_inv hm
  clear hm
  refine rc_ci hS (va_runV (As := []) (rest := [.int (100 : Int32), .int u1]) ⟨hx, hb, hml, hown, hts⟩ (k_X0_hailPart l hT a0 h0 s.heap.size _ _ _ hc_1) (cwV 0 hts (rc_gV tw_3_37 tw_3_38 tw_3_39 tw_1_5 tw_3_40) rfl rfl rfl (by decide +kernel) ⟨Nat.le_of_ble_eq_true rfl, Nat.le_of_ble_eq_true rfl⟩) (rc_preV hT hW hK hE hS h0 (by decide) rfl (q := (RX0, TX0, 6)) rfl []) rfl rfl hl.1 rfl (lv_room (Nat.le_of_ble_eq_true rfl)) dX0_noteOfTaste_4 ⟨Nat.le_of_ble_eq_true rfl, Nat.le_of_ble_eq_true rfl⟩) (fun H locs hW hS => ?_)
  have hm := hm0
  clear hm0 hc_1
  refine lv_isub hx hb dX0_noteOfTaste_7 ?_
  refine lv_imul hx hb dX0_noteOfTaste_8 ?_
  refine lv_bipush (v := 100) hx hb dX0_noteOfTaste_9 (by decide) ?_
  refine lv_idiv hx hb dX0_noteOfTaste_11 (by decide) ?_
  exact rc_eiret hx hb hr hlocks hW hS (Nat.le_of_ble_eq_true rfl) (Nat.le_of_ble_eq_true rfl) hm dX0_noteOfTaste_12
set_option maxHeartbeats 4000000 in
set_option maxRecDepth 100000 in
theorem k_X0_hailIn (l : Launch) {Y : rc_Y} {sh : Nat → Nat} {rf : rc_F} (hT : rc_T Y sh rf) (a0 : Nat) (u1 : Int32) (h0 : sh a0 = 1) (sz : Nat) (σ σ' : rc_S) (r : Int32) (hm : f_X0_hailIn rf a0 u1 σ = some (r, σ')) : Met l yX0_hailIn (Cond.code yX0_hailIn cX0_hailIn 3 (some .int) :: rc_big) ({ frames := 2, cells := 0, slots := 0, locals := 42 } : Room) (rc_P Y sh rf σ sz [.ref a0, .int u1]) (va_Qi (fun (r' : Int32) (_ : Unit) => r' = r) (fun _ t => rc_W Y sh rf σ' t.heap) (rc_A sh sz)) 0 0 (rc_A sh sz) := by
  refine Met.ofW (cc := cX0_hailIn) (maxL := 3) (ret := (some .int)) (by decide +kernel) rfl ?_
  intro p e s m args below meth c s₁ B hml hv
  obtain ⟨rfl, hsz, hW, hK, hE⟩ := hv
  have hx := B.exec
  have hb := B.bytes
  have hr := B.returns
  have hts : ∀ w ∈ rc_big, w.before _ s = true := fun w h => atoms_spec (ws := Cond.code yX0_hailIn cX0_hailIn 3 (some .int) :: rc_big) B.pre w (List.mem_cons_of_mem _ h)
  have hown : s.vm.findClass RX0 = some m.cls := findClass_of_methodNamed B.named
  have hlocks := B.notSynchronized
  clear B
  subst hsz
  have hS : va_S (rc_A sh s.heap.size) s.heap s.heap [] := va_S.rf
  have hl := lv_entry ([.ref a0, .int u1]) (n := 3) (Nat.le_of_ble_eq_true rfl)
  rw [lg_entry_eq]
  generalize (lg_sl ([.ref a0, .int u1]) ++ List.replicate (3 - (lg_sl ([.ref a0, .int u1])).length) Slot.unset).toArray = ls at hl ⊢
  have hl : lv_has ls 3 [(0, .ref a0), (1, .int u1)] := hl
  unfold f_X0_hailIn at hm
  refine lv_aload_n hx hb dX0_hailIn_0 rfl (lv_at hl 0 rfl) ?_
  refine rg_1_1 hx hb hts hown hK hW h0 tw_1_89 dX0_hailIn_1 ?_
  refine lv_aload_n hx hb dX0_hailIn_4 rfl (lv_at hl 0 rfl) ?_
  refine rg_1_2 hx hb hts hown hK hW h0 tw_1_93 dX0_hailIn_5 ?_
  refine lv_isub hx hb dX0_hailIn_8 ?_
  refine lv_topi (fun v2_1 ev => ?_)
  replace hm := rc_lt_at hm ev
  clear ev
  refine lv_istore_n (lv' := [(2, .int v2_1), (0, .ref a0), (1, .int u1)]) hx hb dX0_hailIn_9 rfl hl (by decide) rfl (fun ls hl => ?_)
  refine lv_iload_n hx hb dX0_hailIn_10 rfl (lv_at hl 2 rfl) ?_
  refine lv_aload_n hx hb dX0_hailIn_11 rfl (lv_at hl 1 rfl) ?_
  obtain ⟨w_2, σ_2, hc_2, hm0⟩ := rc_bd_inv hm
  clear hm
  refine rc_ci hS (va_runV (As := []) (rest := [.int u1]) ⟨hx, hb, hml, hown, hts⟩ (k_X0_hailPart l hT a0 h0 s.heap.size _ _ _ hc_2) (cwV 0 hts (rc_gV tw_3_37 tw_3_38 tw_3_39 tw_1_5 tw_3_40) rfl rfl rfl (by decide +kernel) ⟨Nat.le_of_ble_eq_true rfl, Nat.le_of_ble_eq_true rfl⟩) (rc_preV hT hW hK hE hS h0 (by decide) rfl (q := (RX0, TX0, 6)) rfl []) rfl rfl hl.1 rfl (lv_room (Nat.le_of_ble_eq_true rfl)) dX0_hailIn_12 ⟨Nat.le_of_ble_eq_true rfl, Nat.le_of_ble_eq_true rfl⟩) (fun H locs hW hS => ?_)
  have hm := hm0
  clear hm0 hc_2
  refine lv_imul hx hb dX0_hailIn_15 ?_
  refine lv_bipush (v := 100) hx hb dX0_hailIn_16 (by decide) ?_
  refine lv_idiv hx hb dX0_hailIn_18 (by decide) ?_
  refine lv_iload_n hx hb dX0_hailIn_19 rfl (lv_at hl 2 rfl) ?_
  refine lv_iload_n hx hb dX0_hailIn_20 rfl (lv_at hl 0 rfl) ?_
  refine lv_isub hx hb dX0_hailIn_21 ?_
  refine va_mmax hx hb (hml.trans hl.1.symm) hown (hts _ tw_4_112) (hts _ tw_3_234) (hts _ tw_1_22) (hts _ tw_3_235) (Nat.le_of_ble_eq_true rfl) (Nat.le_of_ble_eq_true rfl) (Nat.le_of_ble_eq_true rfl) (Nat.le_of_ble_eq_true rfl) dX0_hailIn_22 ?_
  exact rc_eiret hx hb hr hlocks hW hS (Nat.le_of_ble_eq_true rfl) (Nat.le_of_ble_eq_true rfl) hm dX0_hailIn_25
set_option maxHeartbeats 4000000 in
set_option maxRecDepth 100000 in
theorem k_X1_copy (l : Launch) {Y : rc_Y} {sh : Nat → Nat} {rf : rc_F} (hT : rc_T Y sh rf) (a0 : Nat) (q1 : Nat) (h0 : sh a0 = 2) (hq1 : sh q1 = 2) (sz : Nat) (σ σ' : rc_S) (r : Unit) (hm : f_X1_copy rf a0 q1 σ = some (r, σ')) : Met l yX1_copy (Cond.code yX1_copy cX1_copy 3 none :: rc_big) ({ frames := 2, cells := 0, slots := 0, locals := 42 } : Room) (rc_P Y sh rf σ sz [.ref a0, .ref q1]) (va_Qv (fun (_ : Unit) => True) (fun _ t => rc_W Y sh rf σ' t.heap) (rc_A sh sz)) 0 0 (rc_A sh sz) := by
  refine Met.ofW (cc := cX1_copy) (maxL := 3) (ret := none) (by decide +kernel) rfl ?_
  intro p e s m args below meth c s₁ B hml hv
  obtain ⟨rfl, hsz, hW, hK, hE⟩ := hv
  have hx := B.exec
  have hb := B.bytes
  have hr := B.returns
  have hts : ∀ w ∈ rc_big, w.before _ s = true := fun w h => atoms_spec (ws := Cond.code yX1_copy cX1_copy 3 none :: rc_big) B.pre w (List.mem_cons_of_mem _ h)
  have hown : s.vm.findClass RX1 = some m.cls := findClass_of_methodNamed B.named
  have hlocks := B.notSynchronized
  clear B
  subst hsz
  have hS : va_S (rc_A sh s.heap.size) s.heap s.heap [] := va_S.rf
  have hl := lv_entry ([.ref a0, .ref q1]) (n := 3) (Nat.le_of_ble_eq_true rfl)
  rw [lg_entry_eq]
  generalize (lg_sl ([.ref a0, .ref q1]) ++ List.replicate (3 - (lg_sl ([.ref a0, .ref q1])).length) Slot.unset).toArray = ls at hl ⊢
  have hl : lv_has ls 3 [(0, .ref a0), (1, .ref q1)] := hl
  have lp_2 : ∀ (r1 : Nat) (hr1 : sh r1 = 2) (K : Int32 → rc_S → Option (Unit × rc_S)) (hKK : ∀ (v2 : Int32) (σ : rc_S) (H : Heap) (locs : List Loc) (ls : Array Slot), K v2 σ = some (r, σ') → rc_W Y sh rf σ H → va_S (rc_A sh s.heap.size) s.heap H locs → lv_has ls 3 [(0, .ref a0), (1, .ref r1)] → W p l e (headSpec (Cond.code yX1_copy cX1_copy 3 none :: rc_big) ({ frames := 2, cells := 0, slots := 0, locals := 42 } : Room)).room s m (([.ref a0, .ref q1] : List Value).toArray) below meth c H locs 0 0 (MQ below (va_Qv (fun (_ : Unit) => True) (fun _ t => rc_W Y sh rf σ' t.heap) (rc_A sh s.heap.size)) ([.ref a0, .ref q1] : List Value).toArray s 0 0 (rc_A sh s.heap.size)) (F0 m 25 ls [])) (n : Nat) (v2 : Int32) (σ : rc_S) (H : Heap) (locs : List Loc) (ls : Array Slot), f_X1_copy_2 rf a0 r1 K n v2 σ = some (r, σ') → rc_W Y sh rf σ H → va_S (rc_A sh s.heap.size) s.heap H locs → lv_has ls 3 [(0, .ref a0), (1, .ref r1), (2, .int v2)] → W p l e (headSpec (Cond.code yX1_copy cX1_copy 3 none :: rc_big) ({ frames := 2, cells := 0, slots := 0, locals := 42 } : Room)).room s m (([.ref a0, .ref q1] : List Value).toArray) below meth c H locs 0 0 (MQ below (va_Qv (fun (_ : Unit) => True) (fun _ t => rc_W Y sh rf σ' t.heap) (rc_A sh s.heap.size)) ([.ref a0, .ref q1] : List Value).toArray s 0 0 (rc_A sh s.heap.size)) (F0 m 2 ls []) := by
    intro r1 hr1 K hKK n
    induction n with
    | zero =>
      intro v2 σ H locs ls hm
      rw [f_X1_copy_2] at hm
      cases hm
    | succ n ih =>
      intro v2 σ H locs ls hm hW hS hl
      rw [f_X1_copy_2] at hm
      refine lv_iload_n hx hb dX1_copy_2 rfl (lv_at hl 2 rfl) ?_
      refine lv_iconst (v := 4) hx hb dX1_copy_3 (by decide) ?_
      refine lv_icmp_ge (tgt := 25) hx hb dX1_copy_4 (by decide) (fun c_5 => ?_) (fun c_5 => ?_)
      · replace hm := rc_t hm c_5
        exact hKK v2 σ _ _ _ hm hW hS (lv_sub hl [0, 1] rfl)
      · replace hm := rc_f hm c_5
        refine lv_aload_n hx hb dX1_copy_7 rfl (lv_at hl 0 rfl) ?_
        refine rg_2_0 hx hb hts hown hK hW h0 tw_1_140 dX1_copy_8 ?_
        refine lv_iload_n hx hb dX1_copy_11 rfl (lv_at hl 2 rfl) ?_
        refine lv_aload_n hx hb dX1_copy_12 rfl (lv_at hl 1 rfl) ?_
        refine rg_2_0 hx hb hts hown hK hW hr1 tw_1_140 dX1_copy_13 ?_
        refine lv_iload_n hx hb dX1_copy_16 rfl (lv_at hl 2 rfl) ?_
        have hi_1 := (rc_ix hm).1
        replace hm := (rc_ix hm).2
        refine rc_ialdj (j := v2.toNatClampNeg) hx hb hK hW (rc_t_2_0 hT hr1) (by decide) rfl hi_1 rfl dX1_copy_17 ?_
        have hi_2 := (rc_ix hm).1
        replace hm := (rc_ix hm).2
        refine rc_iastj (j := v2.toNatClampNeg) hx hb hK hW hS (rc_t_2_0 hT h0) (by decide) (fun _ => rfl) hi_2 rfl dX1_copy_18 (fun σ_3 H locs eσ hW hS => ?_)
        replace hm := rc_lt_at hm eσ
        clear eσ
        obtain ⟨v2_4, ev⟩ : ∃ y : Int32, y = (v2 + 1) := ⟨_, rfl⟩
        replace hm := rc_lt_at hm ev
        refine lv_iinc (v := v2_4) (lv' := [(2, .int v2_4), (0, .ref a0), (1, .ref r1)]) hx hb dX1_copy_19 hl (k := 2) rfl (by rw [ev]; rfl) (by decide) rfl (fun ls hl => ?_)
        clear ev
        refine lv_goto (tgt := 2) hx hb dX1_copy_22 (by decide) ?_
        exact ih v2_4 σ_3 _ _ _ hm hW hS (lv_sub hl [1, 2, 0] rfl)
  have lp_27 : ∀ (r1 : Nat) (hr1 : sh r1 = 2) (K : Int32 → rc_S → Option (Unit × rc_S)) (hKK : ∀ (v2 : Int32) (σ : rc_S) (H : Heap) (locs : List Loc) (ls : Array Slot), K v2 σ = some (r, σ') → rc_W Y sh rf σ H → va_S (rc_A sh s.heap.size) s.heap H locs → lv_has ls 3 [(0, .ref a0), (1, .ref r1)] → W p l e (headSpec (Cond.code yX1_copy cX1_copy 3 none :: rc_big) ({ frames := 2, cells := 0, slots := 0, locals := 42 } : Room)).room s m (([.ref a0, .ref q1] : List Value).toArray) below meth c H locs 0 0 (MQ below (va_Qv (fun (_ : Unit) => True) (fun _ t => rc_W Y sh rf σ' t.heap) (rc_A sh s.heap.size)) ([.ref a0, .ref q1] : List Value).toArray s 0 0 (rc_A sh s.heap.size)) (F0 m 54 ls [])) (n : Nat) (v2 : Int32) (σ : rc_S) (H : Heap) (locs : List Loc) (ls : Array Slot), f_X1_copy_27 rf a0 r1 K n v2 σ = some (r, σ') → rc_W Y sh rf σ H → va_S (rc_A sh s.heap.size) s.heap H locs → lv_has ls 3 [(0, .ref a0), (1, .ref r1), (2, .int v2)] → W p l e (headSpec (Cond.code yX1_copy cX1_copy 3 none :: rc_big) ({ frames := 2, cells := 0, slots := 0, locals := 42 } : Room)).room s m (([.ref a0, .ref q1] : List Value).toArray) below meth c H locs 0 0 (MQ below (va_Qv (fun (_ : Unit) => True) (fun _ t => rc_W Y sh rf σ' t.heap) (rc_A sh s.heap.size)) ([.ref a0, .ref q1] : List Value).toArray s 0 0 (rc_A sh s.heap.size)) (F0 m 27 ls []) := by
    intro r1 hr1 K hKK n
    induction n with
    | zero =>
      intro v2 σ H locs ls hm
      rw [f_X1_copy_27] at hm
      cases hm
    | succ n ih =>
      intro v2 σ H locs ls hm hW hS hl
      rw [f_X1_copy_27] at hm
      refine lv_iload_n hx hb dX1_copy_27 rfl (lv_at hl 2 rfl) ?_
      refine lv_bipush (v := 8) hx hb dX1_copy_28 (by decide) ?_
      refine lv_icmp_ge (tgt := 54) hx hb dX1_copy_30 (by decide) (fun c_12 => ?_) (fun c_12 => ?_)
      · replace hm := rc_t hm c_12
        exact hKK v2 σ _ _ _ hm hW hS (lv_sub hl [0, 1] rfl)
      · replace hm := rc_f hm c_12
        refine lv_aload_n hx hb dX1_copy_33 rfl (lv_at hl 0 rfl) ?_
        refine rg_2_1 hx hb hts hown hK hW h0 tw_1_143 dX1_copy_34 ?_
        refine lv_iload_n hx hb dX1_copy_37 rfl (lv_at hl 2 rfl) ?_
        have hi_8 := (rc_ix hm).1
        replace hm := (rc_ix hm).2
        refine rc_aald hx hb hK hW (rc_t_2_1 hT h0) (by decide) rfl 4 rfl hi_8 dX1_copy_38 ?_
        refine lv_aload_n hx hb dX1_copy_39 rfl (lv_at hl 1 rfl) ?_
        refine rg_2_1 hx hb hts hown hK hW hr1 tw_1_143 dX1_copy_40 ?_
        refine lv_iload_n hx hb dX1_copy_43 rfl (lv_at hl 2 rfl) ?_
        have hi_9 := (rc_ix hm).1
        replace hm := (rc_ix hm).2
        refine rc_aald hx hb hK hW (rc_t_2_1 hT hr1) (by decide) rfl 4 rfl hi_9 dX1_copy_44 ?_
        obtain ⟨w_10, σ_10, hc_10, hm0⟩ := rc_bd_inv hm
        clear hm
        refine rc_cv hS (va_runV (As := [.ref (rf (rf r1 1) v2.toNatClampNeg)]) (rest := []) ⟨hx, hb, hml, hown, hts⟩ (k_X0_copy l hT (rf (rf a0 1) v2.toNatClampNeg) (rf (rf r1 1) v2.toNatClampNeg) (rc_t_25 hT (rc_t_2_1 hT h0) hi_8) (rc_t_25 hT (rc_t_2_1 hT hr1) hi_9) H.size _ _ _ hc_10) (cwV 1 hts (rc_gV tw_3_155 tw_3_156 tw_3_157 tw_1_5 tw_3_158) rfl rfl rfl (by decide +kernel) ⟨Nat.le_of_ble_eq_true rfl, Nat.le_of_ble_eq_true rfl⟩) (rc_preV hT hW hK hE hS (rc_t_25 hT (rc_t_2_1 hT h0) hi_8) (by decide) rfl (q := (RX0, TX0, 6)) rfl [.ref (rf (rf r1 1) v2.toNatClampNeg)]) rfl rfl hl.1 rfl (lv_room (Nat.le_of_ble_eq_true rfl)) dX1_copy_45 ⟨Nat.le_of_ble_eq_true rfl, Nat.le_of_ble_eq_true rfl⟩) (fun H locs hW hS => ?_)
        have hm := hm0
        clear hm0 hc_10
        obtain ⟨v2_11, ev⟩ : ∃ y : Int32, y = (v2 + 1) := ⟨_, rfl⟩
        replace hm := rc_lt_at hm ev
        refine lv_iinc (v := v2_11) (lv' := [(2, .int v2_11), (0, .ref a0), (1, .ref r1)]) hx hb dX1_copy_48 hl (k := 2) rfl (by rw [ev]; rfl) (by decide) rfl (fun ls hl => ?_)
        clear ev
        refine lv_goto (tgt := 27) hx hb dX1_copy_51 (by decide) ?_
        exact ih v2_11 σ_10 _ _ _ hm hW hS (lv_sub hl [1, 2, 0] rfl)
  have lp_56 : ∀ (r1 : Nat) (hr1 : sh r1 = 2) (K : Int32 → rc_S → Option (Unit × rc_S)) (hKK : ∀ (v2 : Int32) (σ : rc_S) (H : Heap) (locs : List Loc) (ls : Array Slot), K v2 σ = some (r, σ') → rc_W Y sh rf σ H → va_S (rc_A sh s.heap.size) s.heap H locs → lv_has ls 3 [(0, .ref a0), (1, .ref r1)] → W p l e (headSpec (Cond.code yX1_copy cX1_copy 3 none :: rc_big) ({ frames := 2, cells := 0, slots := 0, locals := 42 } : Room)).room s m (([.ref a0, .ref q1] : List Value).toArray) below meth c H locs 0 0 (MQ below (va_Qv (fun (_ : Unit) => True) (fun _ t => rc_W Y sh rf σ' t.heap) (rc_A sh s.heap.size)) ([.ref a0, .ref q1] : List Value).toArray s 0 0 (rc_A sh s.heap.size)) (F0 m 83 ls [])) (n : Nat) (v2 : Int32) (σ : rc_S) (H : Heap) (locs : List Loc) (ls : Array Slot), f_X1_copy_56 rf a0 r1 K n v2 σ = some (r, σ') → rc_W Y sh rf σ H → va_S (rc_A sh s.heap.size) s.heap H locs → lv_has ls 3 [(0, .ref a0), (1, .ref r1), (2, .int v2)] → W p l e (headSpec (Cond.code yX1_copy cX1_copy 3 none :: rc_big) ({ frames := 2, cells := 0, slots := 0, locals := 42 } : Room)).room s m (([.ref a0, .ref q1] : List Value).toArray) below meth c H locs 0 0 (MQ below (va_Qv (fun (_ : Unit) => True) (fun _ t => rc_W Y sh rf σ' t.heap) (rc_A sh s.heap.size)) ([.ref a0, .ref q1] : List Value).toArray s 0 0 (rc_A sh s.heap.size)) (F0 m 56 ls []) := by
    intro r1 hr1 K hKK n
    induction n with
    | zero =>
      intro v2 σ H locs ls hm
      rw [f_X1_copy_56] at hm
      cases hm
    | succ n ih =>
      intro v2 σ H locs ls hm hW hS hl
      rw [f_X1_copy_56] at hm
      refine lv_iload_n hx hb dX1_copy_56 rfl (lv_at hl 2 rfl) ?_
      refine lv_bipush (v := 12) hx hb dX1_copy_57 (by decide) ?_
      refine lv_icmp_ge (tgt := 83) hx hb dX1_copy_59 (by decide) (fun c_19 => ?_) (fun c_19 => ?_)
      · replace hm := rc_t hm c_19
        exact hKK v2 σ _ _ _ hm hW hS (lv_sub hl [0, 1] rfl)
      · replace hm := rc_f hm c_19
        refine lv_aload_n hx hb dX1_copy_62 rfl (lv_at hl 0 rfl) ?_
        refine rg_2_4 hx hb hts hown hK hW h0 tw_1_152 dX1_copy_63 ?_
        refine lv_iload_n hx hb dX1_copy_66 rfl (lv_at hl 2 rfl) ?_
        have hi_15 := (rc_ix hm).1
        replace hm := (rc_ix hm).2
        refine rc_aald hx hb hK hW (rc_t_2_4 hT h0) (by decide) rfl 6 rfl hi_15 dX1_copy_67 ?_
        refine lv_aload_n hx hb dX1_copy_68 rfl (lv_at hl 1 rfl) ?_
        refine rg_2_4 hx hb hts hown hK hW hr1 tw_1_152 dX1_copy_69 ?_
        refine lv_iload_n hx hb dX1_copy_72 rfl (lv_at hl 2 rfl) ?_
        have hi_16 := (rc_ix hm).1
        replace hm := (rc_ix hm).2
        refine rc_aald hx hb hK hW (rc_t_2_4 hT hr1) (by decide) rfl 6 rfl hi_16 dX1_copy_73 ?_
        obtain ⟨w_17, σ_17, hc_17, hm0⟩ := rc_bd_inv hm
        clear hm
        refine rc_cv hS (va_runV (As := [.ref (rf (rf r1 4) v2.toNatClampNeg)]) (rest := []) ⟨hx, hb, hml, hown, hts⟩ (k_X4_copy l hT (rf (rf a0 4) v2.toNatClampNeg) (rf (rf r1 4) v2.toNatClampNeg) (rc_t_27 hT (rc_t_2_4 hT h0) hi_15) (rc_t_27 hT (rc_t_2_4 hT hr1) hi_16) H.size _ _ _ hc_17) (cwV 1 hts (rc_gV tw_3_163 tw_3_164 tw_3_165 tw_1_6 tw_3_166) rfl rfl rfl (by decide +kernel) ⟨Nat.le_of_ble_eq_true rfl, Nat.le_of_ble_eq_true rfl⟩) (rc_preV hT hW hK hE hS (rc_t_27 hT (rc_t_2_4 hT h0) hi_15) (by decide) rfl (q := (RX4, TX4, 3)) rfl [.ref (rf (rf r1 4) v2.toNatClampNeg)]) rfl rfl hl.1 rfl (lv_room (Nat.le_of_ble_eq_true rfl)) dX1_copy_74 ⟨Nat.le_of_ble_eq_true rfl, Nat.le_of_ble_eq_true rfl⟩) (fun H locs hW hS => ?_)
        have hm := hm0
        clear hm0 hc_17
        obtain ⟨v2_18, ev⟩ : ∃ y : Int32, y = (v2 + 1) := ⟨_, rfl⟩
        replace hm := rc_lt_at hm ev
        refine lv_iinc (v := v2_18) (lv' := [(2, .int v2_18), (0, .ref a0), (1, .ref r1)]) hx hb dX1_copy_77 hl (k := 2) rfl (by rw [ev]; rfl) (by decide) rfl (fun ls hl => ?_)
        clear ev
        refine lv_goto (tgt := 56) hx hb dX1_copy_80 (by decide) ?_
        exact ih v2_18 σ_17 _ _ _ hm hW hS (lv_sub hl [1, 2, 0] rfl)
  unfold f_X1_copy at hm
  refine lv_iconst (v := 0) hx hb dX1_copy_0 (by decide) ?_
  refine lv_istore_n (lv' := [(2, .int (0 : Int32)), (0, .ref a0), (1, .ref q1)]) hx hb dX1_copy_1 rfl hl (by decide) rfl (fun ls hl => ?_)
  refine lp_2 q1 hq1 _ (fun v2_6 σ_7 H locs ls hm hW hS hl => ?_) rc_fu (0 : Int32) σ _ _ _ hm hW hS (lv_sub hl [1, 2, 0] rfl)
  refine lv_iconst (v := 0) hx hb dX1_copy_25 (by decide) ?_
  refine lv_istore_n (lv' := [(2, .int (0 : Int32)), (0, .ref a0), (1, .ref q1)]) hx hb dX1_copy_26 rfl hl (by decide) rfl (fun ls hl => ?_)
  refine lp_27 q1 hq1 _ (fun v2_13 σ_14 H locs ls hm hW hS hl => ?_) rc_fu (0 : Int32) σ_7 _ _ _ hm hW hS (lv_sub hl [1, 2, 0] rfl)
  refine lv_iconst (v := 0) hx hb dX1_copy_54 (by decide) ?_
  refine lv_istore_n (lv' := [(2, .int (0 : Int32)), (0, .ref a0), (1, .ref q1)]) hx hb dX1_copy_55 rfl hl (by decide) rfl (fun ls hl => ?_)
  refine lp_56 q1 hq1 _ (fun v2_20 σ_21 H locs ls hm hW hS hl => ?_) rc_fu (0 : Int32) σ_14 _ _ _ hm hW hS (lv_sub hl [1, 2, 0] rfl)
  refine lv_aload_n hx hb dX1_copy_83 rfl (lv_at hl 0 rfl) ?_
  refine rg_2_3 hx hb hts hown hK hW h0 tw_1_149 dX1_copy_84 ?_
  refine lv_aload_n hx hb dX1_copy_87 rfl (lv_at hl 1 rfl) ?_
  refine rg_2_3 hx hb hts hown hK hW hq1 tw_1_149 dX1_copy_88 ?_
  obtain ⟨w_22, σ_22, hc_22, hm0⟩ := rc_bd_inv hm
  clear hm
  refine rc_cv hS (va_runV (As := [.ref (rf q1 3)]) (rest := []) ⟨hx, hb, hml, hown, hts⟩ (k_X3_copy l hT (rf a0 3) (rf q1 3) (rc_t_2_3 hT h0) (rc_t_2_3 hT hq1) H.size _ _ _ hc_22) (cwV 1 hts (rc_gV tw_3_167 tw_3_168 tw_3_169 tw_1_4 tw_3_170) rfl rfl rfl (by decide +kernel) ⟨Nat.le_of_ble_eq_true rfl, Nat.le_of_ble_eq_true rfl⟩) (rc_preV hT hW hK hE hS (rc_t_2_3 hT h0) (by decide) rfl (q := (RX3, TX3, 3)) rfl [.ref (rf q1 3)]) rfl rfl hl.1 rfl (lv_room (Nat.le_of_ble_eq_true rfl)) dX1_copy_91 ⟨Nat.le_of_ble_eq_true rfl, Nat.le_of_ble_eq_true rfl⟩) (fun H locs hW hS => ?_)
  have hm := hm0
  clear hm0 hc_22
  refine lv_aload_n hx hb dX1_copy_94 rfl (lv_at hl 0 rfl) ?_
  refine lv_aload_n hx hb dX1_copy_95 rfl (lv_at hl 1 rfl) ?_
  obtain ⟨w_23, σ_23, hc_23, hm0⟩ := rc_bd_inv hm
  clear hm
  refine rc_cv hS (va_runV (As := [.ref q1]) (rest := []) ⟨hx, hb, hml, hown, hts⟩ (k_X1_copyCounts l hT a0 q1 h0 hq1 H.size _ _ _ hc_23) (cwV 1 hts (rc_gV tw_3_171 tw_3_173 tw_p_5 tw_1_3 tw_3_174) rfl rfl rfl (by decide +kernel) ⟨Nat.le_of_ble_eq_true rfl, Nat.le_of_ble_eq_true rfl⟩) (rc_preV hT hW hK hE hS h0 (by decide) rfl (q := (RX1, TX1, 14)) rfl [.ref q1]) rfl rfl hl.1 rfl (lv_room (Nat.le_of_ble_eq_true rfl)) dX1_copy_96 ⟨Nat.le_of_ble_eq_true rfl, Nat.le_of_ble_eq_true rfl⟩) (fun H locs hW hS => ?_)
  have hm := hm0
  clear hm0 hc_23
  exact rc_evret hx hb hr hlocks hW hS (Nat.le_of_ble_eq_true rfl) (Nat.le_of_ble_eq_true rfl) hm dX1_copy_99
set_option maxHeartbeats 4000000 in
set_option maxRecDepth 100000 in
theorem k_X1_dropBarrel (l : Launch) {Y : rc_Y} {sh : Nat → Nat} {rf : rc_F} (hT : rc_T Y sh rf) (a0 : Nat) (u1 : Int32) (h0 : sh a0 = 2) (sz : Nat) (σ σ' : rc_S) (r : Unit) (hm : f_X1_dropBarrel rf a0 u1 σ = some (r, σ')) : Met l yX1_dropBarrel (Cond.code yX1_dropBarrel cX1_dropBarrel 3 none :: rc_big) ({ frames := 2, cells := 0, slots := 0, locals := 42 } : Room) (rc_P Y sh rf σ sz [.ref a0, .int u1]) (va_Qv (fun (_ : Unit) => True) (fun _ t => rc_W Y sh rf σ' t.heap) (rc_A sh sz)) 0 0 (rc_A sh sz) := by
  refine Met.ofW (cc := cX1_dropBarrel) (maxL := 3) (ret := none) (by decide +kernel) rfl ?_
  intro p e s m args below meth c s₁ B hml hv
  obtain ⟨rfl, hsz, hW, hK, hE⟩ := hv
  have hx := B.exec
  have hb := B.bytes
  have hr := B.returns
  have hts : ∀ w ∈ rc_big, w.before _ s = true := fun w h => atoms_spec (ws := Cond.code yX1_dropBarrel cX1_dropBarrel 3 none :: rc_big) B.pre w (List.mem_cons_of_mem _ h)
  have hown : s.vm.findClass RX1 = some m.cls := findClass_of_methodNamed B.named
  have hlocks := B.notSynchronized
  clear B
  subst hsz
  have hS : va_S (rc_A sh s.heap.size) s.heap s.heap [] := va_S.rf
  have hl := lv_entry ([.ref a0, .int u1]) (n := 3) (Nat.le_of_ble_eq_true rfl)
  rw [lg_entry_eq]
  generalize (lg_sl ([.ref a0, .int u1]) ++ List.replicate (3 - (lg_sl ([.ref a0, .int u1])).length) Slot.unset).toArray = ls at hl ⊢
  have hl : lv_has ls 3 [(0, .ref a0), (1, .int u1)] := hl
  have lp_2 : ∀ (K : Int32 → rc_S → Option (Unit × rc_S)) (hKK : ∀ (v2 : Int32) (σ : rc_S) (H : Heap) (locs : List Loc) (ls : Array Slot), K v2 σ = some (r, σ') → rc_W Y sh rf σ H → va_S (rc_A sh s.heap.size) s.heap H locs → lv_has ls 3 [(0, .ref a0)] → W p l e (headSpec (Cond.code yX1_dropBarrel cX1_dropBarrel 3 none :: rc_big) ({ frames := 2, cells := 0, slots := 0, locals := 42 } : Room)).room s m (([.ref a0, .int u1] : List Value).toArray) below meth c H locs 0 0 (MQ below (va_Qv (fun (_ : Unit) => True) (fun _ t => rc_W Y sh rf σ' t.heap) (rc_A sh s.heap.size)) ([.ref a0, .int u1] : List Value).toArray s 0 0 (rc_A sh s.heap.size)) (F0 m 35 ls [])) (n : Nat) (v2 : Int32) (σ : rc_S) (H : Heap) (locs : List Loc) (ls : Array Slot), f_X1_dropBarrel_2 rf a0 K n v2 σ = some (r, σ') → rc_W Y sh rf σ H → va_S (rc_A sh s.heap.size) s.heap H locs → lv_has ls 3 [(0, .ref a0), (2, .int v2)] → W p l e (headSpec (Cond.code yX1_dropBarrel cX1_dropBarrel 3 none :: rc_big) ({ frames := 2, cells := 0, slots := 0, locals := 42 } : Room)).room s m (([.ref a0, .int u1] : List Value).toArray) below meth c H locs 0 0 (MQ below (va_Qv (fun (_ : Unit) => True) (fun _ t => rc_W Y sh rf σ' t.heap) (rc_A sh s.heap.size)) ([.ref a0, .int u1] : List Value).toArray s 0 0 (rc_A sh s.heap.size)) (F0 m 2 ls []) := by
    intro  K hKK n
    induction n with
    | zero =>
      intro v2 σ H locs ls hm
      rw [f_X1_dropBarrel_2] at hm
      cases hm
    | succ n ih =>
      intro v2 σ H locs ls hm hW hS hl
      rw [f_X1_dropBarrel_2] at hm
      refine lv_iload_n hx hb dX1_dropBarrel_2 rfl (lv_at hl 1 rfl) ?_
      refine lv_iconst (v := 1) hx hb dX1_dropBarrel_3 (by decide) ?_
      refine lv_iadd hx hb dX1_dropBarrel_4 ?_
      refine lv_aload_n hx hb dX1_dropBarrel_5 rfl (lv_at hl 0 rfl) ?_
      refine rg_2_2 hx hb hts hown hK hW h0 tw_1_146 dX1_dropBarrel_6 ?_
      refine lv_icmp_ge (tgt := 35) hx hb dX1_dropBarrel_9 (by decide) (fun c_5 => ?_) (fun c_5 => ?_)
      · replace hm := rc_t hm c_5
        exact hKK v2 σ _ _ _ hm hW hS (lv_sub hl [0] rfl)
      · replace hm := rc_f hm c_5
        refine lv_aload_n hx hb dX1_dropBarrel_12 rfl (lv_at hl 0 rfl) ?_
        refine rg_2_1 hx hb hts hown hK hW h0 tw_1_143 dX1_dropBarrel_13 ?_
        refine lv_iload_n hx hb dX1_dropBarrel_16 rfl (lv_at hl 1 rfl) ?_
        have hi_1 := (rc_ix hm).1
        replace hm := (rc_ix hm).2
        refine rc_aald hx hb hK hW (rc_t_2_1 hT h0) (by decide) rfl 4 rfl hi_1 dX1_dropBarrel_17 ?_
        refine lv_aload_n hx hb dX1_dropBarrel_18 rfl (lv_at hl 0 rfl) ?_
        refine rg_2_1 hx hb hts hown hK hW h0 tw_1_143 dX1_dropBarrel_19 ?_
        refine lv_iload_n hx hb dX1_dropBarrel_22 rfl (lv_at hl 1 rfl) ?_
        refine lv_iconst (v := 1) hx hb dX1_dropBarrel_23 (by decide) ?_
        refine lv_iadd hx hb dX1_dropBarrel_24 ?_
        have hi_2 := (rc_ix hm).1
        replace hm := (rc_ix hm).2
        refine rc_aald hx hb hK hW (rc_t_2_1 hT h0) (by decide) rfl 4 rfl hi_2 dX1_dropBarrel_25 ?_
        obtain ⟨w_3, σ_3, hc_3, hm0⟩ := rc_bd_inv hm
        clear hm
        refine rc_cv hS (va_runV (As := [.ref (rf (rf a0 1) (v2 + (1 : Int32)).toNatClampNeg)]) (rest := []) ⟨hx, hb, hml, hown, hts⟩ (k_X0_copy l hT (rf (rf a0 1) v2.toNatClampNeg) (rf (rf a0 1) (v2 + (1 : Int32)).toNatClampNeg) (rc_t_25 hT (rc_t_2_1 hT h0) hi_1) (rc_t_25 hT (rc_t_2_1 hT h0) hi_2) H.size _ _ _ hc_3) (cwV 1 hts (rc_gV tw_3_155 tw_3_156 tw_3_157 tw_1_5 tw_3_158) rfl rfl rfl (by decide +kernel) ⟨Nat.le_of_ble_eq_true rfl, Nat.le_of_ble_eq_true rfl⟩) (rc_preV hT hW hK hE hS (rc_t_25 hT (rc_t_2_1 hT h0) hi_1) (by decide) rfl (q := (RX0, TX0, 6)) rfl [.ref (rf (rf a0 1) (v2 + (1 : Int32)).toNatClampNeg)]) rfl rfl hl.1 rfl (lv_room (Nat.le_of_ble_eq_true rfl)) dX1_dropBarrel_26 ⟨Nat.le_of_ble_eq_true rfl, Nat.le_of_ble_eq_true rfl⟩) (fun H locs hW hS => ?_)
        have hm := hm0
        clear hm0 hc_3
        obtain ⟨v2_4, ev⟩ : ∃ y : Int32, y = (v2 + 1) := ⟨_, rfl⟩
        replace hm := rc_lt_at hm ev
        refine lv_iinc (v := v2_4) (lv' := [(2, .int v2_4), (0, .ref a0)]) hx hb dX1_dropBarrel_29 hl (k := 1) rfl (by rw [ev]; rfl) (by decide) rfl (fun ls hl => ?_)
        clear ev
        refine lv_goto (tgt := 2) hx hb dX1_dropBarrel_32 (by decide) ?_
        exact ih v2_4 σ_3 _ _ _ hm hW hS (lv_sub hl [1, 0] rfl)
  unfold f_X1_dropBarrel at hm
  refine lv_iload_n hx hb dX1_dropBarrel_0 rfl (lv_at hl 1 rfl) ?_
  refine lv_istore_n (lv' := [(2, .int u1), (0, .ref a0), (1, .int u1)]) hx hb dX1_dropBarrel_1 rfl hl (by decide) rfl (fun ls hl => ?_)
  refine lp_2 _ (fun v2_6 σ_7 H locs ls hm hW hS hl => ?_) rc_fu u1 σ _ _ _ hm hW hS (lv_sub hl [1, 0] rfl)
  refine lv_aload_n hx hb dX1_dropBarrel_35 rfl (lv_at hl 0 rfl) ?_
  refine lv_dup hx hb dX1_dropBarrel_36 rfl ?_
  refine rg_2_2 hx hb hts hown hK hW h0 tw_1_146 dX1_dropBarrel_37 ?_
  refine lv_iconst (v := 1) hx hb dX1_dropBarrel_40 (by decide) ?_
  refine lv_isub hx hb dX1_dropBarrel_41 ?_
  refine rp_2_2 hx hb hts hown hK hW hS h0 tw_1_146 dX1_dropBarrel_42 (fun σ_8 H locs eσ hW hS => ?_)
  replace hm := rc_lt_at hm eσ
  clear eσ
  exact rc_evret hx hb hr hlocks hW hS (Nat.le_of_ble_eq_true rfl) (Nat.le_of_ble_eq_true rfl) hm dX1_dropBarrel_45
