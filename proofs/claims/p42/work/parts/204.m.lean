def f_X1_litresIntoBarrels_4 (rf : rc_F) (a0 : Nat) (v1 : Int32) (K : Int32 → Int32 → rc_S → Option (Int32 × rc_S)) : Nat → Int32 → Int32 → rc_S → Option (Int32 × rc_S)
  | 0, _, _, _ => none
  | n + 1, v2, v3, σ =>
    if (4 : Int32) ≤ v3 then
      K v2 v3 σ
    else
      rc_bd (f_X8_litresOnRoof rf v3 v1 σ) fun w_1 σ_1 =>
      rc_bd (f_X1_emptyUnder rf a0 v3 σ_1) fun w_2 σ_2 =>
      rc_lt (v2 + (if ((20 : Int32) * w_2) < w_1 then ((20 : Int32) * w_2) else w_1)) fun v2_3 =>
      rc_lt (v3 + 1) fun v3_4 =>
      f_X1_litresIntoBarrels_4 rf a0 v1 K n v2_3 v3_4 σ_2
def f_X1_litresIntoBarrels (rf : rc_F) (a0 : Nat) (u1 : Int32) (σ : rc_S) : Option (Int32 × rc_S) :=
  f_X1_litresIntoBarrels_4 rf a0 u1 (fun v2_6 v3_7 σ_8 =>
    some (v2_6, σ_8)
  ) rc_fu (0 : Int32) (0 : Int32) σ
def f_X2_setAside (rf : rc_F) (a0 : Nat) (q1 : Nat) (σ : rc_S) : Option (Unit × rc_S) :=
  rc_bd (f_X2_aside rf a0 σ) fun w_1 σ_1 =>
  rc_bd (f_X1_copy rf w_1 q1 σ_1) fun _ σ_2 =>
  some ((), σ_2)
def f_X3_doesNotice (rf : rc_F) (a0 : Nat) (u1 : Int32) (u2 : Int32) (σ : rc_S) : Option (Int32 × rc_S) :=
  rc_bd (f_X3_mildPalate rf a0 u1 σ) fun w_1 σ_1 =>
  rc_bd (f_X3_doesPalateNotice rf w_1 u2 σ_1) fun w_2 σ_2 =>
  rc_ck (decide (vp_nar .boolean w_2 = w_2)) <|
  some (w_2, σ_2)
def f_X3_thoseWhoNotice_4 (rf : rc_F) (a0 : Nat) (v1 : Int32) (K : Int32 → Int32 → rc_S → Option (Int32 × rc_S)) : Nat → Int32 → Int32 → rc_S → Option (Int32 × rc_S)
  | 0, _, _, _ => none
  | n + 1, v2, v3, σ =>
    if (σ a0 2) ≤ v3 then
      K v2 v3 σ
    else
      rc_bd (f_X3_doesNotice rf a0 v3 v1 σ) fun w_1 σ_1 =>
      if w_1 = 0 then
        rc_lt (v3 + 1) fun v3_2 =>
        f_X3_thoseWhoNotice_4 rf a0 v1 K n v2 v3_2 σ_1
      else
        rc_lt (v2 ||| ((1 : Int32) <<< (v3 &&& 31))) fun v2_3 =>
        rc_lt (v3 + 1) fun v3_4 =>
        f_X3_thoseWhoNotice_4 rf a0 v1 K n v2_3 v3_4 σ_1
def f_X3_thoseWhoNotice (rf : rc_F) (a0 : Nat) (u1 : Int32) (σ : rc_S) : Option (Int32 × rc_S) :=
  f_X3_thoseWhoNotice_4 rf a0 u1 (fun v2_7 v3_8 σ_9 =>
    some (v2_7, σ_9)
  ) rc_fu (0 : Int32) (0 : Int32) σ
def f_X3_doesBestNotice_4 (rf : rc_F) (a0 : Nat) (v1 : Int32) (K : Int32 → Int32 → rc_S → Option (Int32 × rc_S)) : Nat → Int32 → Int32 → rc_S → Option (Int32 × rc_S)
  | 0, _, _, _ => none
  | n + 1, v2, v3, σ =>
    if (σ a0 2) ≤ v3 then
      K v2 v3 σ
    else
      rc_bd (f_X3_mildPalate rf a0 v3 σ) fun w_1 σ_1 =>
      rc_lt (if v2 < w_1 then w_1 else v2) fun v2_2 =>
      rc_lt (v3 + 1) fun v3_3 =>
      f_X3_doesBestNotice_4 rf a0 v1 K n v2_2 v3_3 σ_1
def f_X3_doesBestNotice (rf : rc_F) (a0 : Nat) (u1 : Int32) (σ : rc_S) : Option (Int32 × rc_S) :=
  f_X3_doesBestNotice_4 rf a0 u1 (fun v2_5 v3_6 σ_7 =>
    if (σ_7 a0 2) ≤ 0 then
      some ((0 : Int32), σ_7)
    else
      rc_bd (f_X3_doesPalateNotice rf v2_5 u1 σ_7) fun w_8 σ_8 =>
      if w_8 = 0 then
        some ((0 : Int32), σ_8)
      else
        some ((1 : Int32), σ_8)
  ) rc_fu (0 : Int32) (0 : Int32) σ
def f_X6_readPart (rf : rc_F) (a0 : Nat) (u1 : Int32) (σ : rc_S) : Option (Int32 × rc_S) :=
  if u1 = (100 : Int32) then
    rc_bd (f_X6_readNumber rf a0 (1 : Int32) σ) fun w_2 σ_2 =>
    rc_ck (decide (vp_nar .boolean w_2 = w_2)) <|
    some (w_2, σ_2)
  else
  if u1 = (110 : Int32) then
    rc_bd (f_X6_readNumber rf a0 (2 : Int32) σ) fun w_4 σ_4 =>
    rc_ck (decide (vp_nar .boolean w_4 = w_4)) <|
    some (w_4, σ_4)
  else
  rc_bd (f_X6_readSign rf a0 u1 σ) fun w_5 σ_5 =>
  rc_ck (decide (vp_nar .boolean w_5 = w_5)) <|
  some (w_5, σ_5)
def f_X7_letStormBy_34 (rf : rc_F) (a0 : Nat) (v1 : Int32) (v2 : Int32) (K : Int32 → Int32 → rc_S → Option (Int32 × rc_S)) : Nat → Int32 → Int32 → rc_S → Option (Int32 × rc_S)
  | 0, _, _, _ => none
  | n + 1, v3, v4, σ =>
    if (4 : Int32) ≤ v4 then
      K v3 v4 σ
    else
      rc_bd (f_X8_litresOnRoof rf v4 v1 σ) fun w_4 σ_4 =>
      rc_bd (f_X7_fillUnder rf a0 v4 w_4 σ_4) fun w_5 σ_5 =>
      rc_lt (v3 + w_5) fun v3_6 =>
      rc_ck (rc_in v4 4) <|
      rc_ck (rc_in v4 4) <|
      rc_lt (rc_up σ_5 (rf (rf a0 0) 0) v4.toNatClampNeg (if ((σ_5 (rf (rf a0 0) 0) v4.toNatClampNeg) - (v1 / (3 : Int32))) < (0 : Int32) then (0 : Int32) else ((σ_5 (rf (rf a0 0) 0) v4.toNatClampNeg) - (v1 / (3 : Int32))))) fun σ_9 =>
      rc_lt (v4 + 1) fun v4_10 =>
      f_X7_letStormBy_34 rf a0 v1 v2 K n v3_6 v4_10 σ_9
def f_X7_letStormBy (rf : rc_F) (a0 : Nat) (u1 : Int32) (u2 : Int32) (σ : rc_S) : Option (Int32 × rc_S) :=
  rc_bd (f_X8_isOutside rf u1 (1 : Int32) (9 : Int32) σ) fun w_1 σ_1 =>
  if w_1 = 0 then
    rc_bd (f_X8_isOutside rf u2 (0 : Int32) (3 : Int32) σ_1) fun w_3 σ_3 =>
    if w_3 = 0 then
      f_X7_letStormBy_34 rf a0 u1 u2 (fun v3_12 v4_13 σ_14 =>
        rc_lt (rc_up σ_14 (rf a0 0) 8 ((σ_14 (rf a0 0) 8) + v3_12)) fun σ_15 =>
        rc_bd (f_X8_litresOnRoofs rf u1 σ_15) fun w_16 σ_16 =>
        rc_lt (rc_up σ_16 (rf a0 0) 10 ((σ_15 (rf a0 0) 10) + (w_16 - v3_12))) fun σ_17 =>
        rc_lt (rc_up σ_17 (rf a0 0) 6 (if (9 : Int32) < ((σ_17 (rf a0 0) 6) + ((2 : Int32) * u2)) then (9 : Int32) else ((σ_17 (rf a0 0) 6) + ((2 : Int32) * u2)))) fun σ_18 =>
        rc_bd (f_X7_tell rf a0 u1 v3_12 σ_18) fun _ σ_19 =>
        some (v3_12, σ_19)
      ) rc_fu (0 : Int32) (0 : Int32) σ_3
    else
      rc_bd (f_X5_because rf (rf a0 1) (1 : Int32) (0 : Int32) σ_3) fun w_20 σ_20 =>
      some (w_20, σ_20)
  else
    rc_bd (f_X5_because rf (rf a0 1) (1 : Int32) (0 : Int32) σ_1) fun w_2 σ_2 =>
    some (w_2, σ_2)
def f_X7_placeBarrel (rf : rc_F) (a0 : Nat) (u1 : Int32) (σ : rc_S) : Option (Int32 × rc_S) :=
  rc_bd (f_X8_isOutside rf u1 (0 : Int32) (3 : Int32) σ) fun w_1 σ_1 =>
  if w_1 = 0 then
    if (σ_1 (rf a0 0) 2) < (8 : Int32) then
      rc_bd (f_X1_addBarrel rf (rf a0 0) u1 σ_1) fun _ σ_2 =>
      some (((σ_2 (rf a0 0) 2) - (1 : Int32)), σ_2)
    else
      rc_bd (f_X5_because rf (rf a0 1) (2 : Int32) (8 : Int32) σ_1) fun w_3 σ_3 =>
      some (w_3, σ_3)
  else
    rc_bd (f_X5_because rf (rf a0 1) (1 : Int32) (0 : Int32) σ_1) fun w_5 σ_5 =>
    some (w_5, σ_5)
def f_X7_removeBarrel (rf : rc_F) (a0 : Nat) (u1 : Int32) (σ : rc_S) : Option (Int32 × rc_S) :=
  rc_bd (f_X1_hasBarrel rf (rf a0 0) u1 σ) fun w_1 σ_1 =>
  if w_1 = 0 then
    rc_bd (f_X5_because rf (rf a0 1) (3 : Int32) (σ_1 (rf a0 0) 2) σ_1) fun w_8 σ_8 =>
    some (w_8, σ_8)
  else
    rc_ck (rc_in u1 8) <|
    rc_bd (f_X0_isEmpty rf (rf (rf (rf a0 0) 1) u1.toNatClampNeg) σ_1) fun w_3 σ_3 =>
    if w_3 = 0 then
      rc_ck (rc_in u1 8) <|
      rc_bd (f_X5_because rf (rf a0 1) (5 : Int32) (σ_3 (rf (rf (rf a0 0) 1) u1.toNatClampNeg) 1) σ_3) fun w_6 σ_6 =>
      some (w_6, σ_6)
    else
      rc_bd (f_X1_dropBarrel rf (rf a0 0) u1 σ_3) fun _ σ_4 =>
      some ((σ_4 (rf a0 0) 2), σ_4)
def f_X7_adulterate (rf : rc_F) (a0 : Nat) (u1 : Int32) (u2 : Int32) (σ : rc_S) : Option (Int32 × rc_S) :=
  rc_bd (f_X1_hasBarrel rf (rf a0 0) u1 σ) fun w_1 σ_1 =>
  if w_1 = 0 then
    rc_bd (f_X5_because rf (rf a0 1) (3 : Int32) (σ_1 (rf a0 0) 2) σ_1) fun w_20 σ_20 =>
    some (w_20, σ_20)
  else
    rc_bd (f_X8_isOutside rf u2 (1 : Int32) (9 : Int32) σ_1) fun w_2 σ_2 =>
    if w_2 = 0 then
      rc_ck (rc_in u1 8) <|
      rc_bd (f_X0_isEmpty rf (rf (rf (rf a0 0) 1) u1.toNatClampNeg) σ_2) fun w_4 σ_4 =>
      if w_4 = 0 then
        if u2 ≤ (σ_4 (rf a0 0) 6) then
          rc_bd (f_X0_room rf (rf (rf (rf a0 0) 1) u1.toNatClampNeg) σ_4) fun w_5 σ_5 =>
          if u2 ≤ w_5 then
            rc_lt (rc_up σ_5 (rf (rf (rf a0 0) 1) u1.toNatClampNeg) 1 ((σ_5 (rf (rf (rf a0 0) 1) u1.toNatClampNeg) 1) + u2)) fun σ_6 =>
            rc_lt (rc_up σ_6 (rf (rf (rf a0 0) 1) u1.toNatClampNeg) 2 ((σ_6 (rf (rf (rf a0 0) 1) u1.toNatClampNeg) 2) + u2)) fun σ_7 =>
            rc_lt (rc_up σ_7 (rf a0 0) 6 ((σ_7 (rf a0 0) 6) - u2)) fun σ_8 =>
            rc_lt (rc_up σ_8 (rf a0 0) 9 ((σ_8 (rf a0 0) 9) + u2)) fun σ_9 =>
            rc_bd (f_X0_hailPart rf (rf (rf (rf a0 0) 1) u1.toNatClampNeg) σ_9) fun w_10 σ_10 =>
            some (w_10, σ_10)
          else
            rc_bd (f_X0_room rf (rf (rf (rf a0 0) 1) u1.toNatClampNeg) σ_5) fun w_11 σ_11 =>
            rc_bd (f_X5_because rf (rf a0 1) (7 : Int32) w_11 σ_11) fun w_12 σ_12 =>
            some (w_12, σ_12)
        else
          rc_bd (f_X5_because rf (rf a0 1) (10 : Int32) (σ_4 (rf a0 0) 6) σ_4) fun w_14 σ_14 =>
          some (w_14, σ_14)
      else
        rc_bd (f_X5_because rf (rf a0 1) (6 : Int32) (0 : Int32) σ_4) fun w_16 σ_16 =>
        some (w_16, σ_16)
    else
      rc_bd (f_X5_because rf (rf a0 1) (1 : Int32) (0 : Int32) σ_2) fun w_18 σ_18 =>
      some (w_18, σ_18)
def f_X7_letCome (rf : rc_F) (a0 : Nat) (u1 : Int32) (u2 : Int32) (σ : rc_S) : Option (Int32 × rc_S) :=
  rc_bd (f_X8_isOutside rf u1 (0 : Int32) (9 : Int32) σ) fun w_1 σ_1 =>
  if w_1 = 0 then
    if (σ_1 (rf (rf a0 0) 3) 2) < (4 : Int32) then
      rc_bd (f_X3_add rf (rf (rf a0 0) 3) u1 u2 σ_1) fun _ σ_2 =>
      some (((σ_2 (rf (rf a0 0) 3) 2) - (1 : Int32)), σ_2)
    else
      rc_bd (f_X5_because rf (rf a0 1) (2 : Int32) (4 : Int32) σ_1) fun w_3 σ_3 =>
      some (w_3, σ_3)
  else
    rc_bd (f_X5_because rf (rf a0 1) (1 : Int32) (0 : Int32) σ_1) fun w_5 σ_5 =>
    some (w_5, σ_5)
def f_X7_clearRoof (rf : rc_F) (a0 : Nat) (u1 : Int32) (σ : rc_S) : Option (Int32 × rc_S) :=
  rc_bd (f_X8_isOutside rf u1 (0 : Int32) (3 : Int32) σ) fun w_1 σ_1 =>
  if w_1 = 0 then
    rc_ck (rc_in u1 4) <|
    rc_lt (σ_1 (rf (rf a0 0) 0) u1.toNatClampNeg) fun v2_3 =>
    if v2_3 = 0 then
      rc_bd (f_X5_because rf (rf a0 1) (12 : Int32) u1 σ_1) fun w_6 σ_6 =>
      some (w_6, σ_6)
    else
      rc_ck (rc_in u1 4) <|
      rc_lt (rc_up σ_1 (rf (rf a0 0) 0) u1.toNatClampNeg (0 : Int32)) fun σ_5 =>
      some (v2_3, σ_5)
  else
    rc_bd (f_X5_because rf (rf a0 1) (1 : Int32) (0 : Int32) σ_1) fun w_8 σ_8 =>
    some (w_8, σ_8)
def f_X8_storm (rf : rc_F) (a0 : Nat) (u1 : Int32) (u2 : Int32) (σ : rc_S) : Option (Nat × Int32 × rc_S) :=
  rc_bd (f_X2_setAside rf (rf a0 5) (rf a0 1) σ) fun _ σ_1 =>
  rc_bd (f_X7_letStormBy rf (rf a0 0) u1 u2 σ_1) fun w_2 σ_2 =>
  rc_bx (f_X8_kept rf a0 w_2 σ_2) (0 : Int32) fun w_3 σ_3 =>
  some (0, w_3, σ_3)
def f_X8_barrel (rf : rc_F) (a0 : Nat) (u1 : Int32) (σ : rc_S) : Option (Nat × Int32 × rc_S) :=
  rc_bd (f_X2_setAside rf (rf a0 5) (rf a0 1) σ) fun _ σ_1 =>
  rc_bd (f_X7_placeBarrel rf (rf a0 0) u1 σ_1) fun w_2 σ_2 =>
  rc_bx (f_X8_kept rf a0 w_2 σ_2) (0 : Int32) fun w_3 σ_3 =>
  some (0, w_3, σ_3)
def f_X8_takeAway (rf : rc_F) (a0 : Nat) (u1 : Int32) (σ : rc_S) : Option (Nat × Int32 × rc_S) :=
  rc_bd (f_X2_setAside rf (rf a0 5) (rf a0 1) σ) fun _ σ_1 =>
  rc_bd (f_X7_removeBarrel rf (rf a0 0) u1 σ_1) fun w_2 σ_2 =>
  rc_bx (f_X8_kept rf a0 w_2 σ_2) (0 : Int32) fun w_3 σ_3 =>
  some (0, w_3, σ_3)
def f_X8_hail (rf : rc_F) (a0 : Nat) (u1 : Int32) (u2 : Int32) (σ : rc_S) : Option (Nat × Int32 × rc_S) :=
  rc_bd (f_X2_setAside rf (rf a0 5) (rf a0 1) σ) fun _ σ_1 =>
  rc_bd (f_X7_adulterate rf (rf a0 0) u1 u2 σ_1) fun w_2 σ_2 =>
  rc_bx (f_X8_kept rf a0 w_2 σ_2) (0 : Int32) fun w_3 σ_3 =>
  some (0, w_3, σ_3)
def f_X8_sommelier (rf : rc_F) (a0 : Nat) (u1 : Int32) (u2 : Int32) (σ : rc_S) : Option (Nat × Int32 × rc_S) :=
  rc_bd (f_X2_setAside rf (rf a0 5) (rf a0 1) σ) fun _ σ_1 =>
  rc_bd (f_X7_letCome rf (rf a0 0) u1 u2 σ_1) fun w_2 σ_2 =>
  rc_bx (f_X8_kept rf a0 w_2 σ_2) (0 : Int32) fun w_3 σ_3 =>
  some (0, w_3, σ_3)
set_option maxHeartbeats 4000000 in
set_option maxRecDepth 100000 in
theorem k_X1_litresIntoBarrels (l : Launch) {Y : rc_Y} {sh : Nat → Nat} {rf : rc_F} (hT : rc_T Y sh rf) (a0 : Nat) (u1 : Int32) (h0 : sh a0 = 2) (sz : Nat) (σ σ' : rc_S) (r : Int32) (hm : f_X1_litresIntoBarrels rf a0 u1 σ = some (r, σ')) : Met l yX1_litresIntoBarrels (Cond.code yX1_litresIntoBarrels cX1_litresIntoBarrels 4 (some .int) :: rc_big) ({ frames := 2, cells := 0, slots := 0, locals := 43 } : Room) (rc_P Y sh rf σ sz [.ref a0, .int u1]) (va_Qi (fun (r' : Int32) (_ : Unit) => r' = r) (fun _ t => rc_W Y sh rf σ' t.heap) (rc_A sh sz)) 0 0 (rc_A sh sz) := by
  refine Met.ofW (cc := cX1_litresIntoBarrels) (maxL := 4) (ret := (some .int)) (by decide +kernel) rfl ?_
  intro p e s m args below meth c s₁ B hml hv
  obtain ⟨rfl, hsz, hW, hK, hE⟩ := hv
  have hx := B.exec
  have hb := B.bytes
  have hr := B.returns
  have hts : ∀ w ∈ rc_big, w.before _ s = true := fun w h => atoms_spec (ws := Cond.code yX1_litresIntoBarrels cX1_litresIntoBarrels 4 (some .int) :: rc_big) B.pre w (List.mem_cons_of_mem _ h)
  have hown : s.vm.findClass RX1 = some m.cls := findClass_of_methodNamed B.named
  have hlocks := B.notSynchronized
  clear B
  subst hsz
  have hS : va_S (rc_A sh s.heap.size) s.heap s.heap [] := va_S.rf
  have hl := lv_entry ([.ref a0, .int u1]) (n := 4) (Nat.le_of_ble_eq_true rfl)
  rw [lg_entry_eq]
  generalize (lg_sl ([.ref a0, .int u1]) ++ List.replicate (4 - (lg_sl ([.ref a0, .int u1])).length) Slot.unset).toArray = ls at hl ⊢
  have hl : lv_has ls 4 [(0, .ref a0), (1, .int u1)] := hl
  have lp_4 : ∀ (v1 : Int32) (K : Int32 → Int32 → rc_S → Option (Int32 × rc_S)) (hKK : ∀ (v2 v3 : Int32) (σ : rc_S) (H : Heap) (locs : List Loc) (ls : Array Slot), K v2 v3 σ = some (r, σ') → rc_W Y sh rf σ H → va_S (rc_A sh s.heap.size) s.heap H locs → lv_has ls 4 [(2, .int v2)] → W p l e (headSpec (Cond.code yX1_litresIntoBarrels cX1_litresIntoBarrels 4 (some .int) :: rc_big) ({ frames := 2, cells := 0, slots := 0, locals := 43 } : Room)).room s m (([.ref a0, .int u1] : List Value).toArray) below meth c H locs 0 0 (MQ below (va_Qi (fun (r' : Int32) (_ : Unit) => r' = r) (fun _ t => rc_W Y sh rf σ' t.heap) (rc_A sh s.heap.size)) ([.ref a0, .int u1] : List Value).toArray s 0 0 (rc_A sh s.heap.size)) (F0 m 34 ls [])) (n : Nat) (v2 v3 : Int32) (σ : rc_S) (H : Heap) (locs : List Loc) (ls : Array Slot), f_X1_litresIntoBarrels_4 rf a0 v1 K n v2 v3 σ = some (r, σ') → rc_W Y sh rf σ H → va_S (rc_A sh s.heap.size) s.heap H locs → lv_has ls 4 [(0, .ref a0), (1, .int v1), (2, .int v2), (3, .int v3)] → W p l e (headSpec (Cond.code yX1_litresIntoBarrels cX1_litresIntoBarrels 4 (some .int) :: rc_big) ({ frames := 2, cells := 0, slots := 0, locals := 43 } : Room)).room s m (([.ref a0, .int u1] : List Value).toArray) below meth c H locs 0 0 (MQ below (va_Qi (fun (r' : Int32) (_ : Unit) => r' = r) (fun _ t => rc_W Y sh rf σ' t.heap) (rc_A sh s.heap.size)) ([.ref a0, .int u1] : List Value).toArray s 0 0 (rc_A sh s.heap.size)) (F0 m 4 ls []) := by
    intro v1 K hKK n
    induction n with
    | zero =>
      intro v2 v3 σ H locs ls hm
      rw [f_X1_litresIntoBarrels_4] at hm
      cases hm
    | succ n ih =>
      intro v2 v3 σ H locs ls hm hW hS hl
      rw [f_X1_litresIntoBarrels_4] at hm
      refine lv_iload_n hx hb dX1_litresIntoBarrels_4 rfl (lv_at hl 3 rfl) ?_
      refine lv_iconst (v := 4) hx hb dX1_litresIntoBarrels_5 (by decide) ?_
      refine lv_icmp_ge (tgt := 34) hx hb dX1_litresIntoBarrels_6 (by decide) (fun c_5 => ?_) (fun c_5 => ?_)
      · replace hm := rc_t hm c_5
        exact hKK v2 v3 σ _ _ _ hm hW hS (lv_sub hl [2] rfl)
      · replace hm := rc_f hm c_5
        refine lv_iload_n hx hb dX1_litresIntoBarrels_9 rfl (lv_at hl 2 rfl) ?_
        refine lv_iload_n hx hb dX1_litresIntoBarrels_10 rfl (lv_at hl 3 rfl) ?_
        refine lv_iload_n hx hb dX1_litresIntoBarrels_11 rfl (lv_at hl 1 rfl) ?_
        obtain ⟨w_1, σ_1, hc_1, hm0⟩ := rc_bd_inv hm
        clear hm
        refine rc_ci hS (va_runSN (As := [.int v3, .int v1]) (rest := [.int v2]) ⟨hx, hb, hml, hown, hts⟩ (k_X8_litresOnRoof l hT v3 v1  H.size _ _ _ hc_1) ⟨va_cnB 2 hts (rc_gI tw_3_100) rfl rfl rfl (rc_E_nw hE _ nw_3_98) (hts _ tw_1_1) (by decide +kernel) ⟨Nat.le_of_ble_eq_true rfl, Nat.le_of_ble_eq_true rfl⟩, hts _ tw_3_99, trivial⟩ (rc_preS hT hW hK hE hS [.int v3, .int v1]) rfl rfl hl.1 rfl (lv_room (Nat.le_of_ble_eq_true rfl)) dX1_litresIntoBarrels_12 ⟨Nat.le_of_ble_eq_true rfl, Nat.le_of_ble_eq_true rfl⟩) (fun H locs hW hS => ?_)
        have hm := hm0
        clear hm0 hc_1
        refine lv_bipush (v := 20) hx hb dX1_litresIntoBarrels_15 (by decide) ?_
        refine lv_aload_n hx hb dX1_litresIntoBarrels_17 rfl (lv_at hl 0 rfl) ?_
        refine lv_iload_n hx hb dX1_litresIntoBarrels_18 rfl (lv_at hl 3 rfl) ?_
        obtain ⟨w_2, σ_2, hc_2, hm0⟩ := rc_bd_inv hm
        clear hm
        refine rc_ci hS (va_runV (As := [.int v3]) (rest := [.int (20 : Int32), .int w_1, .int v2]) ⟨hx, hb, hml, hown, hts⟩ (k_X1_emptyUnder l hT a0 v3 h0 H.size _ _ _ hc_2) (cwV 1 hts (rc_gV tw_3_101 tw_3_102 tw_3_103 tw_1_3 tw_3_104) rfl rfl rfl (by decide +kernel) ⟨Nat.le_of_ble_eq_true rfl, Nat.le_of_ble_eq_true rfl⟩) (rc_preV hT hW hK hE hS h0 (by decide) rfl (q := (RX1, TX1, 14)) rfl [.int v3]) rfl rfl hl.1 rfl (lv_room (Nat.le_of_ble_eq_true rfl)) dX1_litresIntoBarrels_19 ⟨Nat.le_of_ble_eq_true rfl, Nat.le_of_ble_eq_true rfl⟩) (fun H locs hW hS => ?_)
        have hm := hm0
        clear hm0 hc_2
        refine lv_imul hx hb dX1_litresIntoBarrels_22 ?_
        refine va_mmin hx hb (hml.trans hl.1.symm) hown (hts _ tw_3_106) (hts _ tw_3_31) (hts _ tw_1_22) (hts _ tw_3_32) (Nat.le_of_ble_eq_true rfl) (Nat.le_of_ble_eq_true rfl) (Nat.le_of_ble_eq_true rfl) (Nat.le_of_ble_eq_true rfl) dX1_litresIntoBarrels_23 ?_
        refine lv_iadd hx hb dX1_litresIntoBarrels_26 ?_
        refine lv_topi (fun v2_3 ev => ?_)
        replace hm := rc_lt_at hm ev
        clear ev
        refine lv_istore_n (lv' := [(2, .int v2_3), (0, .ref a0), (1, .int v1), (3, .int v3)]) hx hb dX1_litresIntoBarrels_27 rfl hl (by decide) rfl (fun ls hl => ?_)
        obtain ⟨v3_4, ev⟩ : ∃ y : Int32, y = (v3 + 1) := ⟨_, rfl⟩
        replace hm := rc_lt_at hm ev
        refine lv_iinc (v := v3_4) (lv' := [(3, .int v3_4), (2, .int v2_3), (0, .ref a0), (1, .int v1)]) hx hb dX1_litresIntoBarrels_28 hl (k := 3) rfl (by rw [ev]; rfl) (by decide) rfl (fun ls hl => ?_)
        clear ev
        refine lv_goto (tgt := 4) hx hb dX1_litresIntoBarrels_31 (by decide) ?_
        exact ih v2_3 v3_4 σ_2 _ _ _ hm hW hS (lv_sub hl [2, 3, 1, 0] rfl)
  unfold f_X1_litresIntoBarrels at hm
  refine lv_iconst (v := 0) hx hb dX1_litresIntoBarrels_0 (by decide) ?_
  refine lv_istore_n (lv' := [(2, .int (0 : Int32)), (0, .ref a0), (1, .int u1)]) hx hb dX1_litresIntoBarrels_1 rfl hl (by decide) rfl (fun ls hl => ?_)
  refine lv_iconst (v := 0) hx hb dX1_litresIntoBarrels_2 (by decide) ?_
  refine lv_istore_n (lv' := [(3, .int (0 : Int32)), (2, .int (0 : Int32)), (0, .ref a0), (1, .int u1)]) hx hb dX1_litresIntoBarrels_3 rfl hl (by decide) rfl (fun ls hl => ?_)
  refine lp_4 u1 _ (fun v2_6 v3_7 σ_8 H locs ls hm hW hS hl => ?_) rc_fu (0 : Int32) (0 : Int32) σ _ _ _ hm hW hS (lv_sub hl [2, 3, 1, 0] rfl)
  refine lv_iload_n hx hb dX1_litresIntoBarrels_34 rfl (lv_at hl 0 rfl) ?_
  exact rc_eiret hx hb hr hlocks hW hS (Nat.le_of_ble_eq_true rfl) (Nat.le_of_ble_eq_true rfl) hm dX1_litresIntoBarrels_35
set_option maxHeartbeats 4000000 in
set_option maxRecDepth 100000 in
theorem k_X2_setAside (l : Launch) {Y : rc_Y} {sh : Nat → Nat} {rf : rc_F} (hT : rc_T Y sh rf) (a0 : Nat) (q1 : Nat) (h0 : sh a0 = 3) (hq1 : sh q1 = 2) (sz : Nat) (σ σ' : rc_S) (r : Unit) (hm : f_X2_setAside rf a0 q1 σ = some (r, σ')) : Met l yX2_setAside (Cond.code yX2_setAside cX2_setAside 2 none :: rc_big) ({ frames := 3, cells := 0, slots := 0, locals := 64 } : Room) (rc_P Y sh rf σ sz [.ref a0, .ref q1]) (va_Qv (fun (_ : Unit) => True) (fun _ t => rc_W Y sh rf σ' t.heap) (rc_A sh sz)) 0 0 (rc_A sh sz) := by
  refine Met.ofW (cc := cX2_setAside) (maxL := 2) (ret := none) (by decide +kernel) rfl ?_
  intro p e s m args below meth c s₁ B hml hv
  obtain ⟨rfl, hsz, hW, hK, hE⟩ := hv
  have hx := B.exec
  have hb := B.bytes
  have hr := B.returns
  have hts : ∀ w ∈ rc_big, w.before _ s = true := fun w h => atoms_spec (ws := Cond.code yX2_setAside cX2_setAside 2 none :: rc_big) B.pre w (List.mem_cons_of_mem _ h)
  have hown : s.vm.findClass RX2 = some m.cls := findClass_of_methodNamed B.named
  have hlocks := B.notSynchronized
  clear B
  subst hsz
  have hS : va_S (rc_A sh s.heap.size) s.heap s.heap [] := va_S.rf
  have hl := lv_entry ([.ref a0, .ref q1]) (n := 2) (Nat.le_of_ble_eq_true rfl)
  rw [lg_entry_eq]
  generalize (lg_sl ([.ref a0, .ref q1]) ++ List.replicate (2 - (lg_sl ([.ref a0, .ref q1])).length) Slot.unset).toArray = ls at hl ⊢
  have hl : lv_has ls 2 [(0, .ref a0), (1, .ref q1)] := hl
  unfold f_X2_setAside at hm
  refine lv_aload_n hx hb dX2_setAside_0 rfl (lv_at hl 0 rfl) ?_
  obtain ⟨w_1, σ_1, hc_1, hm0⟩ := rc_bd_inv hm
  clear hm
  refine rc_cr hS (va_runV (As := []) (rest := []) ⟨hx, hb, hml, hown, hts⟩ (k_X2_aside l hT a0 h0 s.heap.size _ _ _ hc_1) (cwV 0 hts (rc_gV tw_3_144 tw_3_145 tw_3_146 tw_1_8 tw_3_147) rfl rfl rfl (by decide +kernel) ⟨Nat.le_of_ble_eq_true rfl, Nat.le_of_ble_eq_true rfl⟩) (rc_preV hT hW hK hE hS h0 (by decide) rfl (q := (RX2, TX2, 3)) rfl []) rfl rfl hl.1 rfl (lv_room (Nat.le_of_ble_eq_true rfl)) dX2_setAside_1 ⟨Nat.le_of_ble_eq_true rfl, Nat.le_of_ble_eq_true rfl⟩) (fun H locs hr_1 hW hS => ?_)
  have hm := hm0
  clear hm0 hc_1
  refine lv_aload_n hx hb dX2_setAside_4 rfl (lv_at hl 1 rfl) ?_
  obtain ⟨w_2, σ_2, hc_2, hm0⟩ := rc_bd_inv hm
  clear hm
  refine rc_cv hS (va_runV (As := [.ref q1]) (rest := []) ⟨hx, hb, hml, hown, hts⟩ (k_X1_copy l hT w_1 q1 hr_1 hq1 H.size _ _ _ hc_2) (cwV 1 hts (rc_gV tw_3_151 tw_3_152 tw_3_153 tw_1_3 tw_3_154) rfl rfl rfl (by decide +kernel) ⟨Nat.le_of_ble_eq_true rfl, Nat.le_of_ble_eq_true rfl⟩) (rc_preV hT hW hK hE hS hr_1 (by decide) rfl (q := (RX1, TX1, 14)) rfl [.ref q1]) rfl rfl hl.1 rfl (lv_room (Nat.le_of_ble_eq_true rfl)) dX2_setAside_5 ⟨Nat.le_of_ble_eq_true rfl, Nat.le_of_ble_eq_true rfl⟩) (fun H locs hW hS => ?_)
  have hm := hm0
  clear hm0 hc_2
  exact rc_evret hx hb hr hlocks hW hS (Nat.le_of_ble_eq_true rfl) (Nat.le_of_ble_eq_true rfl) hm dX2_setAside_8
set_option maxHeartbeats 4000000 in
set_option maxRecDepth 100000 in
theorem k_X3_doesNotice (l : Launch) {Y : rc_Y} {sh : Nat → Nat} {rf : rc_F} (hT : rc_T Y sh rf) (a0 : Nat) (u1 : Int32) (u2 : Int32) (h0 : sh a0 = 4) (sz : Nat) (σ σ' : rc_S) (r : Int32) (hm : f_X3_doesNotice rf a0 u1 u2 σ = some (r, σ')) : Met l yX3_doesNotice (Cond.code yX3_doesNotice cX3_doesNotice 3 (some .boolean) :: rc_big) ({ frames := 1, cells := 0, slots := 0, locals := 21 } : Room) (rc_P Y sh rf σ sz [.ref a0, .int u1, .int u2]) (va_Qi (fun (r' : Int32) (_ : Unit) => r' = r) (fun _ t => rc_W Y sh rf σ' t.heap) (rc_A sh sz)) 0 0 (rc_A sh sz) := by
  refine Met.ofW (cc := cX3_doesNotice) (maxL := 3) (ret := (some .boolean)) (by decide +kernel) rfl ?_
  intro p e s m args below meth c s₁ B hml hv
  obtain ⟨rfl, hsz, hW, hK, hE⟩ := hv
  have hx := B.exec
  have hb := B.bytes
  have hr := B.returns
  have hts : ∀ w ∈ rc_big, w.before _ s = true := fun w h => atoms_spec (ws := Cond.code yX3_doesNotice cX3_doesNotice 3 (some .boolean) :: rc_big) B.pre w (List.mem_cons_of_mem _ h)
  have hown : s.vm.findClass RX3 = some m.cls := findClass_of_methodNamed B.named
  have hlocks := B.notSynchronized
  clear B
  subst hsz
  have hS : va_S (rc_A sh s.heap.size) s.heap s.heap [] := va_S.rf
  have hl := lv_entry ([.ref a0, .int u1, .int u2]) (n := 3) (Nat.le_of_ble_eq_true rfl)
  rw [lg_entry_eq]
  generalize (lg_sl ([.ref a0, .int u1, .int u2]) ++ List.replicate (3 - (lg_sl ([.ref a0, .int u1, .int u2])).length) Slot.unset).toArray = ls at hl ⊢
  have hl : lv_has ls 3 [(0, .ref a0), (1, .int u1), (2, .int u2)] := hl
  unfold f_X3_doesNotice at hm
  refine lv_aload_n hx hb dX3_doesNotice_0 rfl (lv_at hl 0 rfl) ?_
  refine lv_iload_n hx hb dX3_doesNotice_1 rfl (lv_at hl 1 rfl) ?_
  obtain ⟨w_1, σ_1, hc_1, hm0⟩ := rc_bd_inv hm
  clear hm
  refine rc_ci hS (va_runV (As := [.int u1]) (rest := []) ⟨hx, hb, hml, hown, hts⟩ (k_X3_mildPalate l hT a0 u1 h0 s.heap.size _ _ _ hc_1) (cwV 1 hts (rc_gV tw_3_61 tw_3_63 tw_p_4 tw_1_4 tw_3_64) rfl rfl rfl (by decide +kernel) ⟨Nat.le_of_ble_eq_true rfl, Nat.le_of_ble_eq_true rfl⟩) (rc_preV hT hW hK hE hS h0 (by decide) rfl (q := (RX3, TX3, 3)) rfl [.int u1]) rfl rfl hl.1 rfl (lv_room (Nat.le_of_ble_eq_true rfl)) dX3_doesNotice_2 ⟨Nat.le_of_ble_eq_true rfl, Nat.le_of_ble_eq_true rfl⟩) (fun H locs hW hS => ?_)
  have hm := hm0
  clear hm0 hc_1
  refine lv_iload_n hx hb dX3_doesNotice_5 rfl (lv_at hl 2 rfl) ?_
  obtain ⟨w_2, σ_2, hc_2, hm0⟩ := rc_bd_inv hm
  clear hm
  refine rc_ci hS (va_runS (As := [.int w_1, .int u2]) (rest := []) ⟨hx, hb, hml, hown, hts⟩ (k_X3_doesPalateNotice l hT w_1 u2  H.size _ _ _ hc_2) (va_cwS 2 hts (rc_gS tw_3_65 tw_3_66 tw_1_4 tw_3_67) rfl rfl rfl (by decide +kernel) ⟨Nat.le_of_ble_eq_true rfl, Nat.le_of_ble_eq_true rfl⟩) (rc_preS hT hW hK hE hS [.int w_1, .int u2]) rfl rfl hl.1 rfl (lv_room (Nat.le_of_ble_eq_true rfl)) dX3_doesNotice_6 ⟨Nat.le_of_ble_eq_true rfl, Nat.le_of_ble_eq_true rfl⟩) (fun H locs hW hS => ?_)
  have hm := hm0
  clear hm0 hc_2
  have hn := (rc_dc hm).1
  replace hm := (rc_dc hm).2
  exact rc_ezret hx hb hr hlocks hW hS (Nat.le_of_ble_eq_true rfl) (Nat.le_of_ble_eq_true rfl) (rc_narz hn) hm dX3_doesNotice_9
set_option maxHeartbeats 4000000 in
set_option maxRecDepth 100000 in
theorem k_X3_thoseWhoNotice (l : Launch) {Y : rc_Y} {sh : Nat → Nat} {rf : rc_F} (hT : rc_T Y sh rf) (a0 : Nat) (u1 : Int32) (h0 : sh a0 = 4) (sz : Nat) (σ σ' : rc_S) (r : Int32) (hm : f_X3_thoseWhoNotice rf a0 u1 σ = some (r, σ')) : Met l yX3_thoseWhoNotice (Cond.code yX3_thoseWhoNotice cX3_thoseWhoNotice 4 (some .int) :: rc_big) ({ frames := 2, cells := 0, slots := 0, locals := 43 } : Room) (rc_P Y sh rf σ sz [.ref a0, .int u1]) (va_Qi (fun (r' : Int32) (_ : Unit) => r' = r) (fun _ t => rc_W Y sh rf σ' t.heap) (rc_A sh sz)) 0 0 (rc_A sh sz) := by
  refine Met.ofW (cc := cX3_thoseWhoNotice) (maxL := 4) (ret := (some .int)) (by decide +kernel) rfl ?_
  intro p e s m args below meth c s₁ B hml hv
  obtain ⟨rfl, hsz, hW, hK, hE⟩ := hv
  have hx := B.exec
  have hb := B.bytes
  have hr := B.returns
  have hts : ∀ w ∈ rc_big, w.before _ s = true := fun w h => atoms_spec (ws := Cond.code yX3_thoseWhoNotice cX3_thoseWhoNotice 4 (some .int) :: rc_big) B.pre w (List.mem_cons_of_mem _ h)
  have hown : s.vm.findClass RX3 = some m.cls := findClass_of_methodNamed B.named
  have hlocks := B.notSynchronized
  clear B
  subst hsz
  have hS : va_S (rc_A sh s.heap.size) s.heap s.heap [] := va_S.rf
  have hl := lv_entry ([.ref a0, .int u1]) (n := 4) (Nat.le_of_ble_eq_true rfl)
  rw [lg_entry_eq]
  generalize (lg_sl ([.ref a0, .int u1]) ++ List.replicate (4 - (lg_sl ([.ref a0, .int u1])).length) Slot.unset).toArray = ls at hl ⊢
  have hl : lv_has ls 4 [(0, .ref a0), (1, .int u1)] := hl
  have lp_4 : ∀ (v1 : Int32) (K : Int32 → Int32 → rc_S → Option (Int32 × rc_S)) (hKK : ∀ (v2 v3 : Int32) (σ : rc_S) (H : Heap) (locs : List Loc) (ls : Array Slot), K v2 v3 σ = some (r, σ') → rc_W Y sh rf σ H → va_S (rc_A sh s.heap.size) s.heap H locs → lv_has ls 4 [(2, .int v2)] → W p l e (headSpec (Cond.code yX3_thoseWhoNotice cX3_thoseWhoNotice 4 (some .int) :: rc_big) ({ frames := 2, cells := 0, slots := 0, locals := 43 } : Room)).room s m (([.ref a0, .int u1] : List Value).toArray) below meth c H locs 0 0 (MQ below (va_Qi (fun (r' : Int32) (_ : Unit) => r' = r) (fun _ t => rc_W Y sh rf σ' t.heap) (rc_A sh s.heap.size)) ([.ref a0, .int u1] : List Value).toArray s 0 0 (rc_A sh s.heap.size)) (F0 m 33 ls [])) (n : Nat) (v2 v3 : Int32) (σ : rc_S) (H : Heap) (locs : List Loc) (ls : Array Slot), f_X3_thoseWhoNotice_4 rf a0 v1 K n v2 v3 σ = some (r, σ') → rc_W Y sh rf σ H → va_S (rc_A sh s.heap.size) s.heap H locs → lv_has ls 4 [(0, .ref a0), (1, .int v1), (2, .int v2), (3, .int v3)] → W p l e (headSpec (Cond.code yX3_thoseWhoNotice cX3_thoseWhoNotice 4 (some .int) :: rc_big) ({ frames := 2, cells := 0, slots := 0, locals := 43 } : Room)).room s m (([.ref a0, .int u1] : List Value).toArray) below meth c H locs 0 0 (MQ below (va_Qi (fun (r' : Int32) (_ : Unit) => r' = r) (fun _ t => rc_W Y sh rf σ' t.heap) (rc_A sh s.heap.size)) ([.ref a0, .int u1] : List Value).toArray s 0 0 (rc_A sh s.heap.size)) (F0 m 4 ls []) := by
    intro v1 K hKK n
    induction n with
    | zero =>
      intro v2 v3 σ H locs ls hm
      rw [f_X3_thoseWhoNotice_4] at hm
      cases hm
    | succ n ih =>
      intro v2 v3 σ H locs ls hm hW hS hl
      rw [f_X3_thoseWhoNotice_4] at hm
      refine lv_iload_n hx hb dX3_thoseWhoNotice_4 rfl (lv_at hl 3 rfl) ?_
      refine lv_aload_n hx hb dX3_thoseWhoNotice_5 rfl (lv_at hl 0 rfl) ?_
      refine rg_4_2 hx hb hts hown hK hW h0 tw_1_66 dX3_thoseWhoNotice_6 ?_
      refine lv_icmp_ge (tgt := 33) hx hb dX3_thoseWhoNotice_9 (by decide) (fun c_6 => ?_) (fun c_6 => ?_)
      · replace hm := rc_t hm c_6
        exact hKK v2 v3 σ _ _ _ hm hW hS (lv_sub hl [2] rfl)
      · replace hm := rc_f hm c_6
        refine lv_aload_n hx hb dX3_thoseWhoNotice_12 rfl (lv_at hl 0 rfl) ?_
        refine lv_iload_n hx hb dX3_thoseWhoNotice_13 rfl (lv_at hl 3 rfl) ?_
        refine lv_iload_n hx hb dX3_thoseWhoNotice_14 rfl (lv_at hl 1 rfl) ?_
        obtain ⟨w_1, σ_1, hc_1, hm0⟩ := rc_bd_inv hm
        clear hm
        refine rc_ci hS (va_runV (As := [.int v3, .int v1]) (rest := []) ⟨hx, hb, hml, hown, hts⟩ (k_X3_doesNotice l hT a0 v3 v1 h0 H.size _ _ _ hc_1) (cwV 2 hts (rc_gV tw_3_57 tw_3_58 tw_3_59 tw_1_4 tw_3_60) rfl rfl rfl (by decide +kernel) ⟨Nat.le_of_ble_eq_true rfl, Nat.le_of_ble_eq_true rfl⟩) (rc_preV hT hW hK hE hS h0 (by decide) rfl (q := (RX3, TX3, 3)) rfl [.int v3, .int v1]) rfl rfl hl.1 rfl (lv_room (Nat.le_of_ble_eq_true rfl)) dX3_thoseWhoNotice_15 ⟨Nat.le_of_ble_eq_true rfl, Nat.le_of_ble_eq_true rfl⟩) (fun H locs hW hS => ?_)
        have hm := hm0
        clear hm0 hc_1
        refine lv_if_eq (tgt := 27) hx hb dX3_thoseWhoNotice_18 (by decide) (fun c_5 => ?_) (fun c_5 => ?_)
        · replace hm := rc_t hm c_5
          obtain ⟨v3_2, ev⟩ : ∃ y : Int32, y = (v3 + 1) := ⟨_, rfl⟩
          replace hm := rc_lt_at hm ev
          refine lv_iinc (v := v3_2) (lv' := [(3, .int v3_2), (0, .ref a0), (1, .int v1), (2, .int v2)]) hx hb dX3_thoseWhoNotice_27 hl (k := 3) rfl (by rw [ev]; rfl) (by decide) rfl (fun ls hl => ?_)
          clear ev
          refine lv_goto (tgt := 4) hx hb dX3_thoseWhoNotice_30 (by decide) ?_
          exact ih v2 v3_2 σ_1 _ _ _ hm hW hS (lv_sub hl [1, 2, 3, 0] rfl)
        · replace hm := rc_f hm c_5
          refine lv_iload_n hx hb dX3_thoseWhoNotice_21 rfl (lv_at hl 2 rfl) ?_
          refine lv_iconst (v := 1) hx hb dX3_thoseWhoNotice_22 (by decide) ?_
          refine lv_iload_n hx hb dX3_thoseWhoNotice_23 rfl (lv_at hl 3 rfl) ?_
          refine lv_ishl hx hb dX3_thoseWhoNotice_24 ?_
          refine lv_ior hx hb dX3_thoseWhoNotice_25 ?_
          refine lv_topi (fun v2_3 ev => ?_)
          replace hm := rc_lt_at hm ev
          clear ev
          refine lv_istore_n (lv' := [(2, .int v2_3), (0, .ref a0), (1, .int v1), (3, .int v3)]) hx hb dX3_thoseWhoNotice_26 rfl hl (by decide) rfl (fun ls hl => ?_)
          obtain ⟨v3_4, ev⟩ : ∃ y : Int32, y = (v3 + 1) := ⟨_, rfl⟩
          replace hm := rc_lt_at hm ev
          refine lv_iinc (v := v3_4) (lv' := [(3, .int v3_4), (2, .int v2_3), (0, .ref a0), (1, .int v1)]) hx hb dX3_thoseWhoNotice_27 hl (k := 3) rfl (by rw [ev]; rfl) (by decide) rfl (fun ls hl => ?_)
          clear ev
          refine lv_goto (tgt := 4) hx hb dX3_thoseWhoNotice_30 (by decide) ?_
          exact ih v2_3 v3_4 σ_1 _ _ _ hm hW hS (lv_sub hl [2, 3, 1, 0] rfl)
  unfold f_X3_thoseWhoNotice at hm
  refine lv_iconst (v := 0) hx hb dX3_thoseWhoNotice_0 (by decide) ?_
  refine lv_istore_n (lv' := [(2, .int (0 : Int32)), (0, .ref a0), (1, .int u1)]) hx hb dX3_thoseWhoNotice_1 rfl hl (by decide) rfl (fun ls hl => ?_)
  refine lv_iconst (v := 0) hx hb dX3_thoseWhoNotice_2 (by decide) ?_
  refine lv_istore_n (lv' := [(3, .int (0 : Int32)), (2, .int (0 : Int32)), (0, .ref a0), (1, .int u1)]) hx hb dX3_thoseWhoNotice_3 rfl hl (by decide) rfl (fun ls hl => ?_)
  refine lp_4 u1 _ (fun v2_7 v3_8 σ_9 H locs ls hm hW hS hl => ?_) rc_fu (0 : Int32) (0 : Int32) σ _ _ _ hm hW hS (lv_sub hl [2, 3, 1, 0] rfl)
  refine lv_iload_n hx hb dX3_thoseWhoNotice_33 rfl (lv_at hl 0 rfl) ?_
  exact rc_eiret hx hb hr hlocks hW hS (Nat.le_of_ble_eq_true rfl) (Nat.le_of_ble_eq_true rfl) hm dX3_thoseWhoNotice_34
set_option maxHeartbeats 4000000 in
set_option maxRecDepth 100000 in
theorem k_X3_doesBestNotice (l : Launch) {Y : rc_Y} {sh : Nat → Nat} {rf : rc_F} (hT : rc_T Y sh rf) (a0 : Nat) (u1 : Int32) (h0 : sh a0 = 4) (sz : Nat) (σ σ' : rc_S) (r : Int32) (hm : f_X3_doesBestNotice rf a0 u1 σ = some (r, σ')) : Met l yX3_doesBestNotice (Cond.code yX3_doesBestNotice cX3_doesBestNotice 4 (some .boolean) :: rc_big) ({ frames := 1, cells := 0, slots := 0, locals := 21 } : Room) (rc_P Y sh rf σ sz [.ref a0, .int u1]) (va_Qi (fun (r' : Int32) (_ : Unit) => r' = r) (fun _ t => rc_W Y sh rf σ' t.heap) (rc_A sh sz)) 0 0 (rc_A sh sz) := by
  refine Met.ofW (cc := cX3_doesBestNotice) (maxL := 4) (ret := (some .boolean)) (by decide +kernel) rfl ?_
  intro p e s m args below meth c s₁ B hml hv
  obtain ⟨rfl, hsz, hW, hK, hE⟩ := hv
  have hx := B.exec
  have hb := B.bytes
  have hr := B.returns
  have hts : ∀ w ∈ rc_big, w.before _ s = true := fun w h => atoms_spec (ws := Cond.code yX3_doesBestNotice cX3_doesBestNotice 4 (some .boolean) :: rc_big) B.pre w (List.mem_cons_of_mem _ h)
  have hown : s.vm.findClass RX3 = some m.cls := findClass_of_methodNamed B.named
  have hlocks := B.notSynchronized
  clear B
  subst hsz
  have hS : va_S (rc_A sh s.heap.size) s.heap s.heap [] := va_S.rf
  have hl := lv_entry ([.ref a0, .int u1]) (n := 4) (Nat.le_of_ble_eq_true rfl)
  rw [lg_entry_eq]
  generalize (lg_sl ([.ref a0, .int u1]) ++ List.replicate (4 - (lg_sl ([.ref a0, .int u1])).length) Slot.unset).toArray = ls at hl ⊢
  have hl : lv_has ls 4 [(0, .ref a0), (1, .int u1)] := hl
  have lp_4 : ∀ (v1 : Int32) (K : Int32 → Int32 → rc_S → Option (Int32 × rc_S)) (hKK : ∀ (v2 v3 : Int32) (σ : rc_S) (H : Heap) (locs : List Loc) (ls : Array Slot), K v2 v3 σ = some (r, σ') → rc_W Y sh rf σ H → va_S (rc_A sh s.heap.size) s.heap H locs → lv_has ls 4 [(0, .ref a0), (1, .int v1), (2, .int v2)] → W p l e (headSpec (Cond.code yX3_doesBestNotice cX3_doesBestNotice 4 (some .boolean) :: rc_big) ({ frames := 1, cells := 0, slots := 0, locals := 21 } : Room)).room s m (([.ref a0, .int u1] : List Value).toArray) below meth c H locs 0 0 (MQ below (va_Qi (fun (r' : Int32) (_ : Unit) => r' = r) (fun _ t => rc_W Y sh rf σ' t.heap) (rc_A sh s.heap.size)) ([.ref a0, .int u1] : List Value).toArray s 0 0 (rc_A sh s.heap.size)) (F0 m 28 ls [])) (n : Nat) (v2 v3 : Int32) (σ : rc_S) (H : Heap) (locs : List Loc) (ls : Array Slot), f_X3_doesBestNotice_4 rf a0 v1 K n v2 v3 σ = some (r, σ') → rc_W Y sh rf σ H → va_S (rc_A sh s.heap.size) s.heap H locs → lv_has ls 4 [(0, .ref a0), (1, .int v1), (2, .int v2), (3, .int v3)] → W p l e (headSpec (Cond.code yX3_doesBestNotice cX3_doesBestNotice 4 (some .boolean) :: rc_big) ({ frames := 1, cells := 0, slots := 0, locals := 21 } : Room)).room s m (([.ref a0, .int u1] : List Value).toArray) below meth c H locs 0 0 (MQ below (va_Qi (fun (r' : Int32) (_ : Unit) => r' = r) (fun _ t => rc_W Y sh rf σ' t.heap) (rc_A sh s.heap.size)) ([.ref a0, .int u1] : List Value).toArray s 0 0 (rc_A sh s.heap.size)) (F0 m 4 ls []) := by
    intro v1 K hKK n
    induction n with
    | zero =>
      intro v2 v3 σ H locs ls hm
      rw [f_X3_doesBestNotice_4] at hm
      cases hm
    | succ n ih =>
      intro v2 v3 σ H locs ls hm hW hS hl
      rw [f_X3_doesBestNotice_4] at hm
      refine lv_iload_n hx hb dX3_doesBestNotice_4 rfl (lv_at hl 3 rfl) ?_
      refine lv_aload_n hx hb dX3_doesBestNotice_5 rfl (lv_at hl 0 rfl) ?_
      refine rg_4_2 hx hb hts hown hK hW h0 tw_1_66 dX3_doesBestNotice_6 ?_
      refine lv_icmp_ge (tgt := 28) hx hb dX3_doesBestNotice_9 (by decide) (fun c_4 => ?_) (fun c_4 => ?_)
      · replace hm := rc_t hm c_4
        exact hKK v2 v3 σ _ _ _ hm hW hS (lv_sub hl [0, 1, 2] rfl)
      · replace hm := rc_f hm c_4
        refine lv_iload_n hx hb dX3_doesBestNotice_12 rfl (lv_at hl 2 rfl) ?_
        refine lv_aload_n hx hb dX3_doesBestNotice_13 rfl (lv_at hl 0 rfl) ?_
        refine lv_iload_n hx hb dX3_doesBestNotice_14 rfl (lv_at hl 3 rfl) ?_
        obtain ⟨w_1, σ_1, hc_1, hm0⟩ := rc_bd_inv hm
        clear hm
        refine rc_ci hS (va_runV (As := [.int v3]) (rest := [.int v2]) ⟨hx, hb, hml, hown, hts⟩ (k_X3_mildPalate l hT a0 v3 h0 H.size _ _ _ hc_1) (cwV 1 hts (rc_gV tw_3_61 tw_3_63 tw_p_4 tw_1_4 tw_3_64) rfl rfl rfl (by decide +kernel) ⟨Nat.le_of_ble_eq_true rfl, Nat.le_of_ble_eq_true rfl⟩) (rc_preV hT hW hK hE hS h0 (by decide) rfl (q := (RX3, TX3, 3)) rfl [.int v3]) rfl rfl hl.1 rfl (lv_room (Nat.le_of_ble_eq_true rfl)) dX3_doesBestNotice_15 ⟨Nat.le_of_ble_eq_true rfl, Nat.le_of_ble_eq_true rfl⟩) (fun H locs hW hS => ?_)
        have hm := hm0
        clear hm0 hc_1
        refine va_mmax hx hb (hml.trans hl.1.symm) hown (hts _ tw_6_211) (hts _ tw_3_234) (hts _ tw_1_22) (hts _ tw_3_235) (Nat.le_of_ble_eq_true rfl) (Nat.le_of_ble_eq_true rfl) (Nat.le_of_ble_eq_true rfl) (Nat.le_of_ble_eq_true rfl) dX3_doesBestNotice_18 ?_
        refine lv_topi (fun v2_2 ev => ?_)
        replace hm := rc_lt_at hm ev
        clear ev
        refine lv_istore_n (lv' := [(2, .int v2_2), (0, .ref a0), (1, .int v1), (3, .int v3)]) hx hb dX3_doesBestNotice_21 rfl hl (by decide) rfl (fun ls hl => ?_)
        obtain ⟨v3_3, ev⟩ : ∃ y : Int32, y = (v3 + 1) := ⟨_, rfl⟩
        replace hm := rc_lt_at hm ev
        refine lv_iinc (v := v3_3) (lv' := [(3, .int v3_3), (2, .int v2_2), (0, .ref a0), (1, .int v1)]) hx hb dX3_doesBestNotice_22 hl (k := 3) rfl (by rw [ev]; rfl) (by decide) rfl (fun ls hl => ?_)
        clear ev
        refine lv_goto (tgt := 4) hx hb dX3_doesBestNotice_25 (by decide) ?_
        exact ih v2_2 v3_3 σ_1 _ _ _ hm hW hS (lv_sub hl [2, 3, 1, 0] rfl)
  unfold f_X3_doesBestNotice at hm
  refine lv_iconst (v := 0) hx hb dX3_doesBestNotice_0 (by decide) ?_
  refine lv_istore_n (lv' := [(2, .int (0 : Int32)), (0, .ref a0), (1, .int u1)]) hx hb dX3_doesBestNotice_1 rfl hl (by decide) rfl (fun ls hl => ?_)
  refine lv_iconst (v := 0) hx hb dX3_doesBestNotice_2 (by decide) ?_
  refine lv_istore_n (lv' := [(3, .int (0 : Int32)), (2, .int (0 : Int32)), (0, .ref a0), (1, .int u1)]) hx hb dX3_doesBestNotice_3 rfl hl (by decide) rfl (fun ls hl => ?_)
  refine lp_4 u1 _ (fun v2_5 v3_6 σ_7 H locs ls hm hW hS hl => ?_) rc_fu (0 : Int32) (0 : Int32) σ _ _ _ hm hW hS (lv_sub hl [2, 3, 1, 0] rfl)
  refine lv_aload_n hx hb dX3_doesBestNotice_28 rfl (lv_at hl 0 rfl) ?_
  refine rg_4_2 hx hb hts hown hK hW h0 tw_1_66 dX3_doesBestNotice_29 ?_
  refine lv_if_le (tgt := 47) hx hb dX3_doesBestNotice_32 (by decide) (fun c_10 => ?_) (fun c_10 => ?_)
  · replace hm := rc_t hm c_10
    refine lv_iconst (v := 0) hx hb dX3_doesBestNotice_47 (by decide) ?_
    exact rc_ezret hx hb hr hlocks hW hS (Nat.le_of_ble_eq_true rfl) (Nat.le_of_ble_eq_true rfl) rfl hm dX3_doesBestNotice_48
  · replace hm := rc_f hm c_10
    refine lv_iload_n hx hb dX3_doesBestNotice_35 rfl (lv_at hl 2 rfl) ?_
    refine lv_iload_n hx hb dX3_doesBestNotice_36 rfl (lv_at hl 1 rfl) ?_
    obtain ⟨w_8, σ_8, hc_8, hm0⟩ := rc_bd_inv hm
    clear hm
    refine rc_ci hS (va_runS (As := [.int v2_5, .int u1]) (rest := []) ⟨hx, hb, hml, hown, hts⟩ (k_X3_doesPalateNotice l hT v2_5 u1  H.size _ _ _ hc_8) (va_cwS 2 hts (rc_gS tw_3_65 tw_3_66 tw_1_4 tw_3_67) rfl rfl rfl (by decide +kernel) ⟨Nat.le_of_ble_eq_true rfl, Nat.le_of_ble_eq_true rfl⟩) (rc_preS hT hW hK hE hS [.int v2_5, .int u1]) rfl rfl hl.1 rfl (lv_room (Nat.le_of_ble_eq_true rfl)) dX3_doesBestNotice_37 ⟨Nat.le_of_ble_eq_true rfl, Nat.le_of_ble_eq_true rfl⟩) (fun H locs hW hS => ?_)
    have hm := hm0
    clear hm0 hc_8
    refine lv_if_eq (tgt := 47) hx hb dX3_doesBestNotice_40 (by decide) (fun c_9 => ?_) (fun c_9 => ?_)
    · replace hm := rc_t hm c_9
      refine lv_iconst (v := 0) hx hb dX3_doesBestNotice_47 (by decide) ?_
      exact rc_ezret hx hb hr hlocks hW hS (Nat.le_of_ble_eq_true rfl) (Nat.le_of_ble_eq_true rfl) rfl hm dX3_doesBestNotice_48
    · replace hm := rc_f hm c_9
      refine lv_iconst (v := 1) hx hb dX3_doesBestNotice_43 (by decide) ?_
      refine lv_goto (tgt := 48) hx hb dX3_doesBestNotice_44 (by decide) ?_
      exact rc_ezret hx hb hr hlocks hW hS (Nat.le_of_ble_eq_true rfl) (Nat.le_of_ble_eq_true rfl) rfl hm dX3_doesBestNotice_48
set_option maxHeartbeats 4000000 in
set_option maxRecDepth 100000 in
theorem k_X6_readPart (l : Launch) {Y : rc_Y} {sh : Nat → Nat} {rf : rc_F} (hT : rc_T Y sh rf) (a0 : Nat) (u1 : Int32) (h0 : sh a0 = 7) (sz : Nat) (σ σ' : rc_S) (r : Int32) (hm : f_X6_readPart rf a0 u1 σ = some (r, σ')) : Met l yX6_readPart (Cond.code yX6_readPart cX6_readPart 2 (some .boolean) :: rc_big) ({ frames := 1, cells := 0, slots := 0, locals := 23 } : Room) (rc_P Y sh rf σ sz [.ref a0, .int u1]) (va_Qi (fun (r' : Int32) (_ : Unit) => r' = r) (fun _ t => rc_W Y sh rf σ' t.heap) (rc_A sh sz)) 0 0 (rc_A sh sz) := by
  refine Met.ofW (cc := cX6_readPart) (maxL := 2) (ret := (some .boolean)) (by decide +kernel) rfl ?_
  intro p e s m args below meth c s₁ B hml hv
  obtain ⟨rfl, hsz, hW, hK, hE⟩ := hv
  have hx := B.exec
  have hb := B.bytes
  have hr := B.returns
  have hts : ∀ w ∈ rc_big, w.before _ s = true := fun w h => atoms_spec (ws := Cond.code yX6_readPart cX6_readPart 2 (some .boolean) :: rc_big) B.pre w (List.mem_cons_of_mem _ h)
  have hown : s.vm.findClass RX6 = some m.cls := findClass_of_methodNamed B.named
  have hlocks := B.notSynchronized
  clear B
  subst hsz
  have hS : va_S (rc_A sh s.heap.size) s.heap s.heap [] := va_S.rf
  have hl := lv_entry ([.ref a0, .int u1]) (n := 2) (Nat.le_of_ble_eq_true rfl)
  rw [lg_entry_eq]
  generalize (lg_sl ([.ref a0, .int u1]) ++ List.replicate (2 - (lg_sl ([.ref a0, .int u1])).length) Slot.unset).toArray = ls at hl ⊢
  have hl : lv_has ls 2 [(0, .ref a0), (1, .int u1)] := hl
  unfold f_X6_readPart at hm
  refine lv_iload_n hx hb dX6_readPart_0 rfl (lv_at hl 1 rfl) ?_
  by_cases c_1 : u1 = (100 : Int32)
  · replace hm := rc_t hm c_1
    refine lv_lookup (off := 27) (tgt := 28) hx hb dX6_readPart_1 (by decide +kernel) (by rw [c_1]; decide) (by decide) ?_
    refine lv_aload_n hx hb dX6_readPart_28 rfl (lv_at hl 0 rfl) ?_
    refine lv_iconst (v := 1) hx hb dX6_readPart_29 (by decide) ?_
    obtain ⟨w_2, σ_2, hc_2, hm0⟩ := rc_bd_inv hm
    clear hm
    refine rc_ci hS (va_runV (As := [.int (1 : Int32)]) (rest := []) ⟨hx, hb, hml, hown, hts⟩ (k_X6_readNumber l hT a0 (1 : Int32) h0 s.heap.size _ _ _ hc_2) (cwV 1 hts (rc_gV tw_6_3 tw_6_5 tw_p_12 tw_1_9 tw_6_6) rfl rfl rfl (by decide +kernel) ⟨Nat.le_of_ble_eq_true rfl, Nat.le_of_ble_eq_true rfl⟩) (rc_preV hT hW hK hE hS h0 (by decide) rfl (q := (RX6, TX6, 7)) rfl [.int (1 : Int32)]) rfl rfl hl.1 rfl (lv_room (Nat.le_of_ble_eq_true rfl)) dX6_readPart_30 ⟨Nat.le_of_ble_eq_true rfl, Nat.le_of_ble_eq_true rfl⟩) (fun H locs hW hS => ?_)
    have hm := hm0
    clear hm0 hc_2
    have hn := (rc_dc hm).1
    replace hm := (rc_dc hm).2
    exact rc_ezret hx hb hr hlocks hW hS (Nat.le_of_ble_eq_true rfl) (Nat.le_of_ble_eq_true rfl) (rc_narz hn) hm dX6_readPart_33
  · replace hm := rc_f hm c_1
    by_cases c_3 : u1 = (110 : Int32)
    · replace hm := rc_t hm c_3
      refine lv_lookup (off := 33) (tgt := 34) hx hb dX6_readPart_1 (by decide +kernel) (by rw [c_3]; decide) (by decide) ?_
      refine lv_aload_n hx hb dX6_readPart_34 rfl (lv_at hl 0 rfl) ?_
      refine lv_iconst (v := 2) hx hb dX6_readPart_35 (by decide) ?_
      obtain ⟨w_4, σ_4, hc_4, hm0⟩ := rc_bd_inv hm
      clear hm
      refine rc_ci hS (va_runV (As := [.int (2 : Int32)]) (rest := []) ⟨hx, hb, hml, hown, hts⟩ (k_X6_readNumber l hT a0 (2 : Int32) h0 s.heap.size _ _ _ hc_4) (cwV 1 hts (rc_gV tw_6_3 tw_6_5 tw_p_12 tw_1_9 tw_6_6) rfl rfl rfl (by decide +kernel) ⟨Nat.le_of_ble_eq_true rfl, Nat.le_of_ble_eq_true rfl⟩) (rc_preV hT hW hK hE hS h0 (by decide) rfl (q := (RX6, TX6, 7)) rfl [.int (2 : Int32)]) rfl rfl hl.1 rfl (lv_room (Nat.le_of_ble_eq_true rfl)) dX6_readPart_36 ⟨Nat.le_of_ble_eq_true rfl, Nat.le_of_ble_eq_true rfl⟩) (fun H locs hW hS => ?_)
      have hm := hm0
      clear hm0 hc_4
      have hn := (rc_dc hm).1
      replace hm := (rc_dc hm).2
      exact rc_ezret hx hb hr hlocks hW hS (Nat.le_of_ble_eq_true rfl) (Nat.le_of_ble_eq_true rfl) (rc_narz hn) hm dX6_readPart_39
    · replace hm := rc_f hm c_3
      refine lv_lookup (off := 39) (tgt := 40) hx hb dX6_readPart_1 (by decide +kernel) (by first | (rw [lv_osw c_1 (by decide), lv_osw c_3 (by decide)]; rfl)) (by decide) ?_
      refine lv_aload_n hx hb dX6_readPart_40 rfl (lv_at hl 0 rfl) ?_
      refine lv_iload_n hx hb dX6_readPart_41 rfl (lv_at hl 1 rfl) ?_
      obtain ⟨w_5, σ_5, hc_5, hm0⟩ := rc_bd_inv hm
      clear hm
      refine rc_ci hS (va_runV (As := [.int u1]) (rest := []) ⟨hx, hb, hml, hown, hts⟩ (k_X6_readSign l hT a0 u1 h0 s.heap.size _ _ _ hc_5) (cwV 1 hts (rc_gV tw_6_7 tw_6_9 tw_p_13 tw_1_9 tw_6_10) rfl rfl rfl (by decide +kernel) ⟨Nat.le_of_ble_eq_true rfl, Nat.le_of_ble_eq_true rfl⟩) (rc_preV hT hW hK hE hS h0 (by decide) rfl (q := (RX6, TX6, 7)) rfl [.int u1]) rfl rfl hl.1 rfl (lv_room (Nat.le_of_ble_eq_true rfl)) dX6_readPart_42 ⟨Nat.le_of_ble_eq_true rfl, Nat.le_of_ble_eq_true rfl⟩) (fun H locs hW hS => ?_)
      have hm := hm0
      clear hm0 hc_5
      have hn := (rc_dc hm).1
      replace hm := (rc_dc hm).2
      exact rc_ezret hx hb hr hlocks hW hS (Nat.le_of_ble_eq_true rfl) (Nat.le_of_ble_eq_true rfl) (rc_narz hn) hm dX6_readPart_45
set_option maxHeartbeats 4000000 in
set_option maxRecDepth 100000 in
theorem k_X7_letStormBy (l : Launch) {Y : rc_Y} {sh : Nat → Nat} {rf : rc_F} (hT : rc_T Y sh rf) (a0 : Nat) (u1 : Int32) (u2 : Int32) (h0 : sh a0 = 8) (sz : Nat) (σ σ' : rc_S) (r : Int32) (hm : f_X7_letStormBy rf a0 u1 u2 σ = some (r, σ')) : Met l yX7_letStormBy (Cond.code yX7_letStormBy cX7_letStormBy 5 (some .int) :: rc_big) ({ frames := 3, cells := 0, slots := 0, locals := 66 } : Room) (rc_P Y sh rf σ sz [.ref a0, .int u1, .int u2]) (va_Qi (fun (r' : Int32) (_ : Unit) => r' = r) (fun _ t => rc_W Y sh rf σ' t.heap) (rc_A sh sz)) 0 0 (rc_A sh sz) := by
  refine Met.ofW (cc := cX7_letStormBy) (maxL := 5) (ret := (some .int)) (by decide +kernel) rfl ?_
  intro p e s m args below meth c s₁ B hml hv
  obtain ⟨rfl, hsz, hW, hK, hE⟩ := hv
  have hx := B.exec
  have hb := B.bytes
  have hr := B.returns
  have hts : ∀ w ∈ rc_big, w.before _ s = true := fun w h => atoms_spec (ws := Cond.code yX7_letStormBy cX7_letStormBy 5 (some .int) :: rc_big) B.pre w (List.mem_cons_of_mem _ h)
  have hown : s.vm.findClass RX7 = some m.cls := findClass_of_methodNamed B.named
  have hlocks := B.notSynchronized
  clear B
  subst hsz
  have hS : va_S (rc_A sh s.heap.size) s.heap s.heap [] := va_S.rf
  have hl := lv_entry ([.ref a0, .int u1, .int u2]) (n := 5) (Nat.le_of_ble_eq_true rfl)
  rw [lg_entry_eq]
  generalize (lg_sl ([.ref a0, .int u1, .int u2]) ++ List.replicate (5 - (lg_sl ([.ref a0, .int u1, .int u2])).length) Slot.unset).toArray = ls at hl ⊢
  have hl : lv_has ls 5 [(0, .ref a0), (1, .int u1), (2, .int u2)] := hl
  have lp_34 : ∀ (v1 : Int32) (v2 : Int32) (K : Int32 → Int32 → rc_S → Option (Int32 × rc_S)) (hKK : ∀ (v3 v4 : Int32) (σ : rc_S) (H : Heap) (locs : List Loc) (ls : Array Slot), K v3 v4 σ = some (r, σ') → rc_W Y sh rf σ H → va_S (rc_A sh s.heap.size) s.heap H locs → lv_has ls 5 [(0, .ref a0), (1, .int v1), (2, .int v2), (3, .int v3)] → W p l e (headSpec (Cond.code yX7_letStormBy cX7_letStormBy 5 (some .int) :: rc_big) ({ frames := 3, cells := 0, slots := 0, locals := 66 } : Room)).room s m (([.ref a0, .int u1, .int u2] : List Value).toArray) below meth c H locs (0 + 0 + 0) (0 + 0 + 0) (MQ below (va_Qi (fun (r' : Int32) (_ : Unit) => r' = r) (fun _ t => rc_W Y sh rf σ' t.heap) (rc_A sh s.heap.size)) ([.ref a0, .int u1, .int u2] : List Value).toArray s 0 0 (rc_A sh s.heap.size)) (F0 m 89 ls [])) (n : Nat) (v3 v4 : Int32) (σ : rc_S) (H : Heap) (locs : List Loc) (ls : Array Slot), f_X7_letStormBy_34 rf a0 v1 v2 K n v3 v4 σ = some (r, σ') → rc_W Y sh rf σ H → va_S (rc_A sh s.heap.size) s.heap H locs → lv_has ls 5 [(0, .ref a0), (1, .int v1), (2, .int v2), (3, .int v3), (4, .int v4)] → W p l e (headSpec (Cond.code yX7_letStormBy cX7_letStormBy 5 (some .int) :: rc_big) ({ frames := 3, cells := 0, slots := 0, locals := 66 } : Room)).room s m (([.ref a0, .int u1, .int u2] : List Value).toArray) below meth c H locs (0 + 0 + 0) (0 + 0 + 0) (MQ below (va_Qi (fun (r' : Int32) (_ : Unit) => r' = r) (fun _ t => rc_W Y sh rf σ' t.heap) (rc_A sh s.heap.size)) ([.ref a0, .int u1, .int u2] : List Value).toArray s 0 0 (rc_A sh s.heap.size)) (F0 m 34 ls []) := by
    intro v1 v2 K hKK n
    induction n with
    | zero =>
      intro v3 v4 σ H locs ls hm
      rw [f_X7_letStormBy_34] at hm
      cases hm
    | succ n ih =>
      intro v3 v4 σ H locs ls hm hW hS hl
      rw [f_X7_letStormBy_34] at hm
      refine lv_iload hx hb dX7_letStormBy_34 (lv_at hl 4 rfl) ?_
      refine lv_iconst (v := 4) hx hb dX7_letStormBy_36 (by decide) ?_
      refine lv_icmp_ge (tgt := 89) hx hb dX7_letStormBy_37 (by decide) (fun c_11 => ?_) (fun c_11 => ?_)
      · replace hm := rc_t hm c_11
        exact hKK v3 v4 σ _ _ _ hm hW hS (lv_sub hl [0, 1, 2, 3] rfl)
      · replace hm := rc_f hm c_11
        refine lv_iload_n hx hb dX7_letStormBy_40 rfl (lv_at hl 3 rfl) ?_
        refine lv_aload_n hx hb dX7_letStormBy_41 rfl (lv_at hl 0 rfl) ?_
        refine lv_iload hx hb dX7_letStormBy_42 (lv_at hl 4 rfl) ?_
        refine lv_iload hx hb dX7_letStormBy_44 (lv_at hl 4 rfl) ?_
        refine lv_iload_n hx hb dX7_letStormBy_46 rfl (lv_at hl 1 rfl) ?_
        obtain ⟨w_4, σ_4, hc_4, hm0⟩ := rc_bd_inv hm
        clear hm
        refine rc_ci hS (va_runSN (As := [.int v4, .int v1]) (rest := [.int v4, .ref a0, .int v3]) ⟨hx, hb, hml, hown, hts⟩ (k_X8_litresOnRoof l hT v4 v1  H.size _ _ _ hc_4) ⟨va_cnB 2 hts (rc_gI tw_3_100) rfl rfl rfl (rc_E_nw hE _ nw_3_226) (hts _ tw_1_1) (by decide +kernel) ⟨Nat.le_of_ble_eq_true rfl, Nat.le_of_ble_eq_true rfl⟩, hts _ tw_3_99, trivial⟩ (rc_preS hT hW hK hE hS [.int v4, .int v1]) rfl rfl hl.1 rfl (lv_room (Nat.le_of_ble_eq_true rfl)) dX7_letStormBy_47 ⟨Nat.le_of_ble_eq_true rfl, Nat.le_of_ble_eq_true rfl⟩) (fun H locs hW hS => ?_)
        have hm := hm0
        clear hm0 hc_4
        obtain ⟨w_5, σ_5, hc_5, hm0⟩ := rc_bd_inv hm
        clear hm
        refine rc_ci hS (va_runV (As := [.int v4, .int w_4]) (rest := [.int v3]) ⟨hx, hb, hml, hown, hts⟩ (k_X7_fillUnder l hT a0 v4 w_4 h0 H.size _ _ _ hc_5) (cwV 2 hts (rc_gV tw_3_227 tw_3_229 tw_p_7 tw_1_2 tw_3_230) rfl rfl rfl (by decide +kernel) ⟨Nat.le_of_ble_eq_true rfl, Nat.le_of_ble_eq_true rfl⟩) (rc_preV hT hW hK hE hS h0 (by decide) rfl (q := (RX7, TX7, 2)) rfl [.int v4, .int w_4]) rfl rfl hl.1 rfl (lv_room (Nat.le_of_ble_eq_true rfl)) dX7_letStormBy_50 ⟨Nat.le_of_ble_eq_true rfl, Nat.le_of_ble_eq_true rfl⟩) (fun H locs hW hS => ?_)
        have hm := hm0
        clear hm0 hc_5
        refine lv_iadd hx hb dX7_letStormBy_53 ?_
        refine lv_topi (fun v3_6 ev => ?_)
        replace hm := rc_lt_at hm ev
        clear ev
        refine lv_istore_n (lv' := [(3, .int v3_6), (0, .ref a0), (1, .int v1), (2, .int v2), (4, .int v4)]) hx hb dX7_letStormBy_54 rfl hl (by decide) rfl (fun ls hl => ?_)
        refine lv_aload_n hx hb dX7_letStormBy_55 rfl (lv_at hl 1 rfl) ?_
        refine rg_8_0 hx hb hts hown hK hW h0 tw_1_226 dX7_letStormBy_56 ?_
        refine rg_2_0 hx hb hts hown hK hW (rc_t_8_0 hT h0) tw_1_141 dX7_letStormBy_59 ?_
        refine lv_iload hx hb dX7_letStormBy_62 (lv_at hl 4 rfl) ?_
        refine lv_aload_n hx hb dX7_letStormBy_64 rfl (lv_at hl 1 rfl) ?_
        refine rg_8_0 hx hb hts hown hK hW h0 tw_1_226 dX7_letStormBy_65 ?_
        refine rg_2_0 hx hb hts hown hK hW (rc_t_8_0 hT h0) tw_1_141 dX7_letStormBy_68 ?_
        refine lv_iload hx hb dX7_letStormBy_71 (lv_at hl 4 rfl) ?_
        have hi_7 := (rc_ix hm).1
        replace hm := (rc_ix hm).2
        refine rc_ialdj (j := v4.toNatClampNeg) hx hb hK hW (rc_t_2_0 hT (rc_t_8_0 hT h0)) (by decide) rfl hi_7 rfl dX7_letStormBy_73 ?_
        refine lv_iload_n hx hb dX7_letStormBy_74 rfl (lv_at hl 2 rfl) ?_
        refine lv_iconst (v := 3) hx hb dX7_letStormBy_75 (by decide) ?_
        refine lv_idiv hx hb dX7_letStormBy_76 (by decide) ?_
        refine lv_isub hx hb dX7_letStormBy_77 ?_
        refine lv_iconst (v := 0) hx hb dX7_letStormBy_78 (by decide) ?_
        refine va_mmax hx hb (hml.trans hl.1.symm) hown (hts _ tw_3_233) (hts _ tw_3_234) (hts _ tw_1_22) (hts _ tw_3_235) (Nat.le_of_ble_eq_true rfl) (Nat.le_of_ble_eq_true rfl) (Nat.le_of_ble_eq_true rfl) (Nat.le_of_ble_eq_true rfl) dX7_letStormBy_79 ?_
        have hi_8 := (rc_ix hm).1
        replace hm := (rc_ix hm).2
        refine rc_iastj (j := v4.toNatClampNeg) hx hb hK hW hS (rc_t_2_0 hT (rc_t_8_0 hT h0)) (by decide) (fun _ => rfl) hi_8 rfl dX7_letStormBy_82 (fun σ_9 H locs eσ hW hS => ?_)
        replace hm := rc_lt_at hm eσ
        clear eσ
        obtain ⟨v4_10, ev⟩ : ∃ y : Int32, y = (v4 + 1) := ⟨_, rfl⟩
        replace hm := rc_lt_at hm ev
        refine lv_iinc (v := v4_10) (lv' := [(4, .int v4_10), (3, .int v3_6), (0, .ref a0), (1, .int v1), (2, .int v2)]) hx hb dX7_letStormBy_83 hl (k := 4) rfl (by rw [ev]; rfl) (by decide) rfl (fun ls hl => ?_)
        clear ev
        refine lv_goto (tgt := 34) hx hb dX7_letStormBy_86 (by decide) ?_
        exact ih v3_6 v4_10 σ_9 _ _ _ hm hW hS (lv_sub hl [2, 3, 4, 1, 0] rfl)
  unfold f_X7_letStormBy at hm
  refine lv_iload_n hx hb dX7_letStormBy_0 rfl (lv_at hl 1 rfl) ?_
  refine lv_iconst (v := 1) hx hb dX7_letStormBy_1 (by decide) ?_
  refine lv_bipush (v := 9) hx hb dX7_letStormBy_2 (by decide) ?_
  obtain ⟨w_1, σ_1, hc_1, hm0⟩ := rc_bd_inv hm
  clear hm
  refine rc_ci hS (va_runSN (As := [.int u1, .int (1 : Int32), .int (9 : Int32)]) (rest := []) ⟨hx, hb, hml, hown, hts⟩ (k_X8_isOutside l hT u1 (1 : Int32) (9 : Int32)  s.heap.size _ _ _ hc_1) ⟨va_cnB 3 hts (rc_gI tw_3_78) rfl rfl rfl (rc_E_nw hE _ nw_3_179) (hts _ tw_1_1) (by decide +kernel) ⟨Nat.le_of_ble_eq_true rfl, Nat.le_of_ble_eq_true rfl⟩, hts _ tw_3_77, trivial⟩ (rc_preS hT hW hK hE hS [.int u1, .int (1 : Int32), .int (9 : Int32)]) rfl rfl hl.1 rfl (lv_room (Nat.le_of_ble_eq_true rfl)) dX7_letStormBy_4 ⟨Nat.le_of_ble_eq_true rfl, Nat.le_of_ble_eq_true rfl⟩) (fun H locs hW hS => ?_)
  have hm := hm0
  clear hm0 hc_1
  refine lv_if_ne (tgt := 19) hx hb dX7_letStormBy_7 (by decide) (fun c_22 => ?_) (fun c_22 => ?_)
  · replace hm := rc_f hm c_22
    refine lv_aload_n hx hb dX7_letStormBy_19 rfl (lv_at hl 0 rfl) ?_
    refine rg_8_1 hx hb hts hown hK hW h0 tw_1_228 dX7_letStormBy_20 ?_
    refine lv_iconst (v := 1) hx hb dX7_letStormBy_23 (by decide) ?_
    refine lv_iconst (v := 0) hx hb dX7_letStormBy_24 (by decide) ?_
    obtain ⟨w_2, σ_2, hc_2, hm0⟩ := rc_bd_inv hm
    clear hm
    refine rc_ci hS (va_runV (As := [.int (1 : Int32), .int (0 : Int32)]) (rest := []) ⟨hx, hb, hml, hown, hts⟩ (k_X5_because l hT (rf a0 1) (1 : Int32) (0 : Int32) (rc_t_8_1 hT h0) H.size _ _ _ hc_2) (cwV 2 hts (rc_gV tw_3_180 tw_3_181 tw_3_182 tw_1_7 tw_3_183) rfl rfl rfl (by decide +kernel) ⟨Nat.le_of_ble_eq_true rfl, Nat.le_of_ble_eq_true rfl⟩) (rc_preV hT hW hK hE hS (rc_t_8_1 hT h0) (by decide) rfl (q := (RX5, TX5, 3)) rfl [.int (1 : Int32), .int (0 : Int32)]) rfl rfl hl.1 rfl (lv_room (Nat.le_of_ble_eq_true rfl)) dX7_letStormBy_25 ⟨Nat.le_of_ble_eq_true rfl, Nat.le_of_ble_eq_true rfl⟩) (fun H locs hW hS => ?_)
    have hm := hm0
    clear hm0 hc_2
    exact rc_eiret hx hb hr hlocks hW hS (Nat.le_of_ble_eq_true rfl) (Nat.le_of_ble_eq_true rfl) hm dX7_letStormBy_28
  · replace hm := rc_t hm c_22
    refine lv_iload_n hx hb dX7_letStormBy_10 rfl (lv_at hl 2 rfl) ?_
    refine lv_iconst (v := 0) hx hb dX7_letStormBy_11 (by decide) ?_
    refine lv_iconst (v := 3) hx hb dX7_letStormBy_12 (by decide) ?_
    obtain ⟨w_3, σ_3, hc_3, hm0⟩ := rc_bd_inv hm
    clear hm
    refine rc_ci hS (va_runSN (As := [.int u2, .int (0 : Int32), .int (3 : Int32)]) (rest := []) ⟨hx, hb, hml, hown, hts⟩ (k_X8_isOutside l hT u2 (0 : Int32) (3 : Int32)  H.size _ _ _ hc_3) ⟨va_cnB 3 hts (rc_gI tw_3_78) rfl rfl rfl (rc_E_nw hE _ nw_3_179) (hts _ tw_1_1) (by decide +kernel) ⟨Nat.le_of_ble_eq_true rfl, Nat.le_of_ble_eq_true rfl⟩, hts _ tw_3_77, trivial⟩ (rc_preS hT hW hK hE hS [.int u2, .int (0 : Int32), .int (3 : Int32)]) rfl rfl hl.1 rfl (lv_room (Nat.le_of_ble_eq_true rfl)) dX7_letStormBy_13 ⟨Nat.le_of_ble_eq_true rfl, Nat.le_of_ble_eq_true rfl⟩) (fun H locs hW hS => ?_)
    have hm := hm0
    clear hm0 hc_3
    refine lv_if_eq (tgt := 29) hx hb dX7_letStormBy_16 (by decide) (fun c_21 => ?_) (fun c_21 => ?_)
    · replace hm := rc_t hm c_21
      refine lv_iconst (v := 0) hx hb dX7_letStormBy_29 (by decide) ?_
      refine lv_istore_n (lv' := [(3, .int (0 : Int32)), (0, .ref a0), (1, .int u1), (2, .int u2)]) hx hb dX7_letStormBy_30 rfl hl (by decide) rfl (fun ls hl => ?_)
      refine lv_iconst (v := 0) hx hb dX7_letStormBy_31 (by decide) ?_
      refine lv_istore (lv' := [(4, .int (0 : Int32)), (3, .int (0 : Int32)), (0, .ref a0), (1, .int u1), (2, .int u2)]) hx hb dX7_letStormBy_32 hl (by decide) rfl (fun ls hl => ?_)
      refine lp_34 u1 u2 _ (fun v3_12 v4_13 σ_14 H locs ls hm hW hS hl => ?_) rc_fu (0 : Int32) (0 : Int32) σ_3 _ _ _ hm hW hS (lv_sub hl [2, 3, 4, 1, 0] rfl)
      refine lv_aload_n hx hb dX7_letStormBy_89 rfl (lv_at hl 0 rfl) ?_
      refine rg_8_0 hx hb hts hown hK hW h0 tw_1_226 dX7_letStormBy_90 ?_
      refine lv_dup hx hb dX7_letStormBy_93 rfl ?_
      refine rg_2_8 hx hb hts hown hK hW (rc_t_8_0 hT h0) tw_1_163 dX7_letStormBy_94 ?_
      refine lv_iload_n hx hb dX7_letStormBy_97 rfl (lv_at hl 3 rfl) ?_
      refine lv_iadd hx hb dX7_letStormBy_98 ?_
      refine rp_2_8 hx hb hts hown hK hW hS (rc_t_8_0 hT h0) tw_1_163 dX7_letStormBy_99 (fun σ_15 H locs eσ hW hS => ?_)
      replace hm := rc_lt_at hm eσ
      clear eσ
      refine lv_aload_n hx hb dX7_letStormBy_102 rfl (lv_at hl 0 rfl) ?_
      refine rg_8_0 hx hb hts hown hK hW h0 tw_1_226 dX7_letStormBy_103 ?_
      refine lv_dup hx hb dX7_letStormBy_106 rfl ?_
      refine rg_2_10 hx hb hts hown hK hW (rc_t_8_0 hT h0) tw_1_169 dX7_letStormBy_107 ?_
      refine lv_iload_n hx hb dX7_letStormBy_110 rfl (lv_at hl 1 rfl) ?_
      obtain ⟨w_16, σ_16, hc_16, hm0⟩ := rc_bd_inv hm
      clear hm
      refine rc_ci hS (va_runSN (As := [.int u1]) (rest := [.int (σ_15 (rf a0 0) 10), .ref (rf a0 0)]) ⟨hx, hb, hml, hown, hts⟩ (k_X8_litresOnRoofs l hT u1  H.size _ _ _ hc_16) ⟨va_cnB 1 hts (rc_gI tw_3_116) rfl rfl rfl (rc_E_nw hE _ nw_3_236) (hts _ tw_1_1) (by decide +kernel) ⟨Nat.le_of_ble_eq_true rfl, Nat.le_of_ble_eq_true rfl⟩, hts _ tw_3_115, trivial⟩ (rc_preS hT hW hK hE hS [.int u1]) rfl rfl hl.1 rfl (lv_room (Nat.le_of_ble_eq_true rfl)) dX7_letStormBy_111 ⟨Nat.le_of_ble_eq_true rfl, Nat.le_of_ble_eq_true rfl⟩) (fun H locs hW hS => ?_)
      have hm := hm0
      clear hm0 hc_16
      refine lv_iload_n hx hb dX7_letStormBy_114 rfl (lv_at hl 3 rfl) ?_
      refine lv_isub hx hb dX7_letStormBy_115 ?_
      refine lv_iadd hx hb dX7_letStormBy_116 ?_
      refine rp_2_10 hx hb hts hown hK hW hS (rc_t_8_0 hT h0) tw_1_169 dX7_letStormBy_117 (fun σ_17 H locs eσ hW hS => ?_)
      replace hm := rc_lt_at hm eσ
      clear eσ
      refine lv_aload_n hx hb dX7_letStormBy_120 rfl (lv_at hl 0 rfl) ?_
      refine rg_8_0 hx hb hts hown hK hW h0 tw_1_226 dX7_letStormBy_121 ?_
      refine lv_aload_n hx hb dX7_letStormBy_124 rfl (lv_at hl 0 rfl) ?_
      refine rg_8_0 hx hb hts hown hK hW h0 tw_1_226 dX7_letStormBy_125 ?_
      refine rg_2_6 hx hb hts hown hK hW (rc_t_8_0 hT h0) tw_1_157 dX7_letStormBy_128 ?_
      refine lv_iconst (v := 2) hx hb dX7_letStormBy_131 (by decide) ?_
      refine lv_iload_n hx hb dX7_letStormBy_132 rfl (lv_at hl 2 rfl) ?_
      refine lv_imul hx hb dX7_letStormBy_133 ?_
      refine lv_iadd hx hb dX7_letStormBy_134 ?_
      refine lv_bipush (v := 9) hx hb dX7_letStormBy_135 (by decide) ?_
      refine va_mmin hx hb (hml.trans hl.1.symm) hown (hts _ tw_3_232) (hts _ tw_3_31) (hts _ tw_1_22) (hts _ tw_3_32) (Nat.le_of_ble_eq_true rfl) (Nat.le_of_ble_eq_true rfl) (Nat.le_of_ble_eq_true rfl) (Nat.le_of_ble_eq_true rfl) dX7_letStormBy_137 ?_
      refine rp_2_6 hx hb hts hown hK hW hS (rc_t_8_0 hT h0) tw_1_157 dX7_letStormBy_140 (fun σ_18 H locs eσ hW hS => ?_)
      replace hm := rc_lt_at hm eσ
      clear eσ
      refine lv_aload_n hx hb dX7_letStormBy_143 rfl (lv_at hl 0 rfl) ?_
      refine lv_iload_n hx hb dX7_letStormBy_144 rfl (lv_at hl 1 rfl) ?_
      refine lv_iload_n hx hb dX7_letStormBy_145 rfl (lv_at hl 3 rfl) ?_
      obtain ⟨w_19, σ_19, hc_19, hm0⟩ := rc_bd_inv hm
      clear hm
      refine rc_cv hS (va_runV (As := [.int u1, .int v3_12]) (rest := []) ⟨hx, hb, hml, hown, hts⟩ (k_X7_tell l hT a0 u1 v3_12 h0 H.size _ _ _ hc_19) (cwV 2 hts (rc_gV tw_3_237 tw_3_239 tw_p_8 tw_1_2 tw_4_0) rfl rfl rfl (by decide +kernel) ⟨Nat.le_of_ble_eq_true rfl, Nat.le_of_ble_eq_true rfl⟩) (rc_preV hT hW hK hE hS h0 (by decide) rfl (q := (RX7, TX7, 2)) rfl [.int u1, .int v3_12]) rfl rfl hl.1 rfl (lv_room (Nat.le_of_ble_eq_true rfl)) dX7_letStormBy_146 ⟨Nat.le_of_ble_eq_true rfl, Nat.le_of_ble_eq_true rfl⟩) (fun H locs hW hS => ?_)
      have hm := hm0
      clear hm0 hc_19
      refine lv_iload_n hx hb dX7_letStormBy_149 rfl (lv_at hl 3 rfl) ?_
      exact rc_eiret hx hb hr hlocks hW hS (Nat.le_of_ble_eq_true rfl) (Nat.le_of_ble_eq_true rfl) hm dX7_letStormBy_150
    · replace hm := rc_f hm c_21
      refine lv_aload_n hx hb dX7_letStormBy_19 rfl (lv_at hl 0 rfl) ?_
      refine rg_8_1 hx hb hts hown hK hW h0 tw_1_228 dX7_letStormBy_20 ?_
      refine lv_iconst (v := 1) hx hb dX7_letStormBy_23 (by decide) ?_
      refine lv_iconst (v := 0) hx hb dX7_letStormBy_24 (by decide) ?_
      obtain ⟨w_20, σ_20, hc_20, hm0⟩ := rc_bd_inv hm
      clear hm
      refine rc_ci hS (va_runV (As := [.int (1 : Int32), .int (0 : Int32)]) (rest := []) ⟨hx, hb, hml, hown, hts⟩ (k_X5_because l hT (rf a0 1) (1 : Int32) (0 : Int32) (rc_t_8_1 hT h0) H.size _ _ _ hc_20) (cwV 2 hts (rc_gV tw_3_180 tw_3_181 tw_3_182 tw_1_7 tw_3_183) rfl rfl rfl (by decide +kernel) ⟨Nat.le_of_ble_eq_true rfl, Nat.le_of_ble_eq_true rfl⟩) (rc_preV hT hW hK hE hS (rc_t_8_1 hT h0) (by decide) rfl (q := (RX5, TX5, 3)) rfl [.int (1 : Int32), .int (0 : Int32)]) rfl rfl hl.1 rfl (lv_room (Nat.le_of_ble_eq_true rfl)) dX7_letStormBy_25 ⟨Nat.le_of_ble_eq_true rfl, Nat.le_of_ble_eq_true rfl⟩) (fun H locs hW hS => ?_)
      have hm := hm0
      clear hm0 hc_20
      exact rc_eiret hx hb hr hlocks hW hS (Nat.le_of_ble_eq_true rfl) (Nat.le_of_ble_eq_true rfl) hm dX7_letStormBy_28
set_option maxHeartbeats 4000000 in
set_option maxRecDepth 100000 in
theorem k_X7_placeBarrel (l : Launch) {Y : rc_Y} {sh : Nat → Nat} {rf : rc_F} (hT : rc_T Y sh rf) (a0 : Nat) (u1 : Int32) (h0 : sh a0 = 8) (sz : Nat) (σ σ' : rc_S) (r : Int32) (hm : f_X7_placeBarrel rf a0 u1 σ = some (r, σ')) : Met l yX7_placeBarrel (Cond.code yX7_placeBarrel cX7_placeBarrel 2 (some .int) :: rc_big) ({ frames := 2, cells := 0, slots := 0, locals := 41 } : Room) (rc_P Y sh rf σ sz [.ref a0, .int u1]) (va_Qi (fun (r' : Int32) (_ : Unit) => r' = r) (fun _ t => rc_W Y sh rf σ' t.heap) (rc_A sh sz)) 0 0 (rc_A sh sz) := by
  refine Met.ofW (cc := cX7_placeBarrel) (maxL := 2) (ret := (some .int)) (by decide +kernel) rfl ?_
  intro p e s m args below meth c s₁ B hml hv
  obtain ⟨rfl, hsz, hW, hK, hE⟩ := hv
  have hx := B.exec
  have hb := B.bytes
  have hr := B.returns
  have hts : ∀ w ∈ rc_big, w.before _ s = true := fun w h => atoms_spec (ws := Cond.code yX7_placeBarrel cX7_placeBarrel 2 (some .int) :: rc_big) B.pre w (List.mem_cons_of_mem _ h)
  have hown : s.vm.findClass RX7 = some m.cls := findClass_of_methodNamed B.named
  have hlocks := B.notSynchronized
  clear B
  subst hsz
  have hS : va_S (rc_A sh s.heap.size) s.heap s.heap [] := va_S.rf
  have hl := lv_entry ([.ref a0, .int u1]) (n := 2) (Nat.le_of_ble_eq_true rfl)
  rw [lg_entry_eq]
  generalize (lg_sl ([.ref a0, .int u1]) ++ List.replicate (2 - (lg_sl ([.ref a0, .int u1])).length) Slot.unset).toArray = ls at hl ⊢
  have hl : lv_has ls 2 [(0, .ref a0), (1, .int u1)] := hl
  unfold f_X7_placeBarrel at hm
  refine lv_iload_n hx hb dX7_placeBarrel_0 rfl (lv_at hl 1 rfl) ?_
  refine lv_iconst (v := 0) hx hb dX7_placeBarrel_1 (by decide) ?_
  refine lv_iconst (v := 3) hx hb dX7_placeBarrel_2 (by decide) ?_
  obtain ⟨w_1, σ_1, hc_1, hm0⟩ := rc_bd_inv hm
  clear hm
  refine rc_ci hS (va_runSN (As := [.int u1, .int (0 : Int32), .int (3 : Int32)]) (rest := []) ⟨hx, hb, hml, hown, hts⟩ (k_X8_isOutside l hT u1 (0 : Int32) (3 : Int32)  s.heap.size _ _ _ hc_1) ⟨va_cnB 3 hts (rc_gI tw_3_78) rfl rfl rfl (rc_E_nw hE _ nw_3_179) (hts _ tw_1_1) (by decide +kernel) ⟨Nat.le_of_ble_eq_true rfl, Nat.le_of_ble_eq_true rfl⟩, hts _ tw_3_77, trivial⟩ (rc_preS hT hW hK hE hS [.int u1, .int (0 : Int32), .int (3 : Int32)]) rfl rfl hl.1 rfl (lv_room (Nat.le_of_ble_eq_true rfl)) dX7_placeBarrel_3 ⟨Nat.le_of_ble_eq_true rfl, Nat.le_of_ble_eq_true rfl⟩) (fun H locs hW hS => ?_)
  have hm := hm0
  clear hm0 hc_1
  refine lv_if_eq (tgt := 19) hx hb dX7_placeBarrel_6 (by decide) (fun c_6 => ?_) (fun c_6 => ?_)
  · replace hm := rc_t hm c_6
    refine lv_aload_n hx hb dX7_placeBarrel_19 rfl (lv_at hl 0 rfl) ?_
    refine rg_8_0 hx hb hts hown hK hW h0 tw_1_226 dX7_placeBarrel_20 ?_
    refine rg_2_2 hx hb hts hown hK hW (rc_t_8_0 hT h0) tw_1_147 dX7_placeBarrel_23 ?_
    refine lv_bipush (v := 8) hx hb dX7_placeBarrel_26 (by decide) ?_
    refine lv_icmp_lt (tgt := 42) hx hb dX7_placeBarrel_28 (by decide) (fun c_4 => ?_) (fun c_4 => ?_)
    · replace hm := rc_t hm c_4
      refine lv_aload_n hx hb dX7_placeBarrel_42 rfl (lv_at hl 0 rfl) ?_
      refine rg_8_0 hx hb hts hown hK hW h0 tw_1_226 dX7_placeBarrel_43 ?_
      refine lv_iload_n hx hb dX7_placeBarrel_46 rfl (lv_at hl 1 rfl) ?_
      obtain ⟨w_2, σ_2, hc_2, hm0⟩ := rc_bd_inv hm
      clear hm
      refine rc_cv hS (va_runV (As := [.int u1]) (rest := []) ⟨hx, hb, hml, hown, hts⟩ (k_X1_addBarrel l hT (rf a0 0) u1 (rc_t_8_0 hT h0) H.size _ _ _ hc_2) (cwV 1 hts (rc_gV tw_3_184 tw_3_185 tw_3_186 tw_1_3 tw_3_187) rfl rfl rfl (by decide +kernel) ⟨Nat.le_of_ble_eq_true rfl, Nat.le_of_ble_eq_true rfl⟩) (rc_preV hT hW hK hE hS (rc_t_8_0 hT h0) (by decide) rfl (q := (RX1, TX1, 14)) rfl [.int u1]) rfl rfl hl.1 rfl (lv_room (Nat.le_of_ble_eq_true rfl)) dX7_placeBarrel_47 ⟨Nat.le_of_ble_eq_true rfl, Nat.le_of_ble_eq_true rfl⟩) (fun H locs hW hS => ?_)
      have hm := hm0
      clear hm0 hc_2
      refine lv_aload_n hx hb dX7_placeBarrel_50 rfl (lv_at hl 0 rfl) ?_
      refine rg_8_0 hx hb hts hown hK hW h0 tw_1_226 dX7_placeBarrel_51 ?_
      refine rg_2_2 hx hb hts hown hK hW (rc_t_8_0 hT h0) tw_1_147 dX7_placeBarrel_54 ?_
      refine lv_iconst (v := 1) hx hb dX7_placeBarrel_57 (by decide) ?_
      refine lv_isub hx hb dX7_placeBarrel_58 ?_
      exact rc_eiret hx hb hr hlocks hW hS (Nat.le_of_ble_eq_true rfl) (Nat.le_of_ble_eq_true rfl) hm dX7_placeBarrel_59
    · replace hm := rc_f hm c_4
      refine lv_aload_n hx hb dX7_placeBarrel_31 rfl (lv_at hl 0 rfl) ?_
      refine rg_8_1 hx hb hts hown hK hW h0 tw_1_228 dX7_placeBarrel_32 ?_
      refine lv_iconst (v := 2) hx hb dX7_placeBarrel_35 (by decide) ?_
      refine lv_bipush (v := 8) hx hb dX7_placeBarrel_36 (by decide) ?_
      obtain ⟨w_3, σ_3, hc_3, hm0⟩ := rc_bd_inv hm
      clear hm
      refine rc_ci hS (va_runV (As := [.int (2 : Int32), .int (8 : Int32)]) (rest := []) ⟨hx, hb, hml, hown, hts⟩ (k_X5_because l hT (rf a0 1) (2 : Int32) (8 : Int32) (rc_t_8_1 hT h0) H.size _ _ _ hc_3) (cwV 2 hts (rc_gV tw_3_180 tw_3_181 tw_3_182 tw_1_7 tw_3_183) rfl rfl rfl (by decide +kernel) ⟨Nat.le_of_ble_eq_true rfl, Nat.le_of_ble_eq_true rfl⟩) (rc_preV hT hW hK hE hS (rc_t_8_1 hT h0) (by decide) rfl (q := (RX5, TX5, 3)) rfl [.int (2 : Int32), .int (8 : Int32)]) rfl rfl hl.1 rfl (lv_room (Nat.le_of_ble_eq_true rfl)) dX7_placeBarrel_38 ⟨Nat.le_of_ble_eq_true rfl, Nat.le_of_ble_eq_true rfl⟩) (fun H locs hW hS => ?_)
      have hm := hm0
      clear hm0 hc_3
      exact rc_eiret hx hb hr hlocks hW hS (Nat.le_of_ble_eq_true rfl) (Nat.le_of_ble_eq_true rfl) hm dX7_placeBarrel_41
  · replace hm := rc_f hm c_6
    refine lv_aload_n hx hb dX7_placeBarrel_9 rfl (lv_at hl 0 rfl) ?_
    refine rg_8_1 hx hb hts hown hK hW h0 tw_1_228 dX7_placeBarrel_10 ?_
    refine lv_iconst (v := 1) hx hb dX7_placeBarrel_13 (by decide) ?_
    refine lv_iconst (v := 0) hx hb dX7_placeBarrel_14 (by decide) ?_
    obtain ⟨w_5, σ_5, hc_5, hm0⟩ := rc_bd_inv hm
    clear hm
    refine rc_ci hS (va_runV (As := [.int (1 : Int32), .int (0 : Int32)]) (rest := []) ⟨hx, hb, hml, hown, hts⟩ (k_X5_because l hT (rf a0 1) (1 : Int32) (0 : Int32) (rc_t_8_1 hT h0) H.size _ _ _ hc_5) (cwV 2 hts (rc_gV tw_3_180 tw_3_181 tw_3_182 tw_1_7 tw_3_183) rfl rfl rfl (by decide +kernel) ⟨Nat.le_of_ble_eq_true rfl, Nat.le_of_ble_eq_true rfl⟩) (rc_preV hT hW hK hE hS (rc_t_8_1 hT h0) (by decide) rfl (q := (RX5, TX5, 3)) rfl [.int (1 : Int32), .int (0 : Int32)]) rfl rfl hl.1 rfl (lv_room (Nat.le_of_ble_eq_true rfl)) dX7_placeBarrel_15 ⟨Nat.le_of_ble_eq_true rfl, Nat.le_of_ble_eq_true rfl⟩) (fun H locs hW hS => ?_)
    have hm := hm0
    clear hm0 hc_5
    exact rc_eiret hx hb hr hlocks hW hS (Nat.le_of_ble_eq_true rfl) (Nat.le_of_ble_eq_true rfl) hm dX7_placeBarrel_18
set_option maxHeartbeats 4000000 in
set_option maxRecDepth 100000 in
theorem k_X7_removeBarrel (l : Launch) {Y : rc_Y} {sh : Nat → Nat} {rf : rc_F} (hT : rc_T Y sh rf) (a0 : Nat) (u1 : Int32) (h0 : sh a0 = 8) (sz : Nat) (σ σ' : rc_S) (r : Int32) (hm : f_X7_removeBarrel rf a0 u1 σ = some (r, σ')) : Met l yX7_removeBarrel (Cond.code yX7_removeBarrel cX7_removeBarrel 2 (some .int) :: rc_big) ({ frames := 3, cells := 0, slots := 0, locals := 64 } : Room) (rc_P Y sh rf σ sz [.ref a0, .int u1]) (va_Qi (fun (r' : Int32) (_ : Unit) => r' = r) (fun _ t => rc_W Y sh rf σ' t.heap) (rc_A sh sz)) 0 0 (rc_A sh sz) := by
  refine Met.ofW (cc := cX7_removeBarrel) (maxL := 2) (ret := (some .int)) (by decide +kernel) rfl ?_
  intro p e s m args below meth c s₁ B hml hv
  obtain ⟨rfl, hsz, hW, hK, hE⟩ := hv
  have hx := B.exec
  have hb := B.bytes
  have hr := B.returns
  have hts : ∀ w ∈ rc_big, w.before _ s = true := fun w h => atoms_spec (ws := Cond.code yX7_removeBarrel cX7_removeBarrel 2 (some .int) :: rc_big) B.pre w (List.mem_cons_of_mem _ h)
  have hown : s.vm.findClass RX7 = some m.cls := findClass_of_methodNamed B.named
  have hlocks := B.notSynchronized
  clear B
  subst hsz
  have hS : va_S (rc_A sh s.heap.size) s.heap s.heap [] := va_S.rf
  have hl := lv_entry ([.ref a0, .int u1]) (n := 2) (Nat.le_of_ble_eq_true rfl)
  rw [lg_entry_eq]
  generalize (lg_sl ([.ref a0, .int u1]) ++ List.replicate (2 - (lg_sl ([.ref a0, .int u1])).length) Slot.unset).toArray = ls at hl ⊢
  have hl : lv_has ls 2 [(0, .ref a0), (1, .int u1)] := hl
  unfold f_X7_removeBarrel at hm
  refine lv_aload_n hx hb dX7_removeBarrel_0 rfl (lv_at hl 0 rfl) ?_
  refine rg_8_0 hx hb hts hown hK hW h0 tw_1_226 dX7_removeBarrel_1 ?_
  refine lv_iload_n hx hb dX7_removeBarrel_4 rfl (lv_at hl 1 rfl) ?_
  obtain ⟨w_1, σ_1, hc_1, hm0⟩ := rc_bd_inv hm
  clear hm
  refine rc_ci hS (va_runV (As := [.int u1]) (rest := []) ⟨hx, hb, hml, hown, hts⟩ (k_X1_hasBarrel l hT (rf a0 0) u1 (rc_t_8_0 hT h0) s.heap.size _ _ _ hc_1) (cwV 1 hts (rc_gV tw_4_70 tw_2_214 tw_2_215 tw_1_3 tw_2_216) rfl rfl rfl (by decide +kernel) ⟨Nat.le_of_ble_eq_true rfl, Nat.le_of_ble_eq_true rfl⟩) (rc_preV hT hW hK hE hS (rc_t_8_0 hT h0) (by decide) rfl (q := (RX1, TX1, 14)) rfl [.int u1]) rfl rfl hl.1 rfl (lv_room (Nat.le_of_ble_eq_true rfl)) dX7_removeBarrel_5 ⟨Nat.le_of_ble_eq_true rfl, Nat.le_of_ble_eq_true rfl⟩) (fun H locs hW hS => ?_)
  have hm := hm0
  clear hm0 hc_1
  refine lv_if_ne (tgt := 27) hx hb dX7_removeBarrel_8 (by decide) (fun c_9 => ?_) (fun c_9 => ?_)
  · replace hm := rc_f hm c_9
    refine lv_aload_n hx hb dX7_removeBarrel_27 rfl (lv_at hl 0 rfl) ?_
    refine rg_8_0 hx hb hts hown hK hW h0 tw_1_226 dX7_removeBarrel_28 ?_
    refine rg_2_1 hx hb hts hown hK hW (rc_t_8_0 hT h0) tw_1_144 dX7_removeBarrel_31 ?_
    refine lv_iload_n hx hb dX7_removeBarrel_34 rfl (lv_at hl 1 rfl) ?_
    have hi_2 := (rc_ix hm).1
    replace hm := (rc_ix hm).2
    refine rc_aald hx hb hK hW (rc_t_2_1 hT (rc_t_8_0 hT h0)) (by decide) rfl 4 rfl hi_2 dX7_removeBarrel_35 ?_
    obtain ⟨w_3, σ_3, hc_3, hm0⟩ := rc_bd_inv hm
    clear hm
    refine rc_ci hS (va_runV (As := []) (rest := []) ⟨hx, hb, hml, hown, hts⟩ (k_X0_isEmpty l hT (rf (rf (rf a0 0) 1) u1.toNatClampNeg) (rc_t_25 hT (rc_t_2_1 hT (rc_t_8_0 hT h0)) hi_2) H.size _ _ _ hc_3) (cwV 0 hts (rc_gV tw_3_231 tw_2_239 tw_3_0 tw_1_5 tw_3_1) rfl rfl rfl (by decide +kernel) ⟨Nat.le_of_ble_eq_true rfl, Nat.le_of_ble_eq_true rfl⟩) (rc_preV hT hW hK hE hS (rc_t_25 hT (rc_t_2_1 hT (rc_t_8_0 hT h0)) hi_2) (by decide) rfl (q := (RX0, TX0, 6)) rfl []) rfl rfl hl.1 rfl (lv_room (Nat.le_of_ble_eq_true rfl)) dX7_removeBarrel_36 ⟨Nat.le_of_ble_eq_true rfl, Nat.le_of_ble_eq_true rfl⟩) (fun H locs hW hS => ?_)
    have hm := hm0
    clear hm0 hc_3
    refine lv_if_ne (tgt := 63) hx hb dX7_removeBarrel_39 (by decide) (fun c_7 => ?_) (fun c_7 => ?_)
    · replace hm := rc_f hm c_7
      refine lv_aload_n hx hb dX7_removeBarrel_63 rfl (lv_at hl 0 rfl) ?_
      refine rg_8_0 hx hb hts hown hK hW h0 tw_1_226 dX7_removeBarrel_64 ?_
      refine lv_iload_n hx hb dX7_removeBarrel_67 rfl (lv_at hl 1 rfl) ?_
      obtain ⟨w_4, σ_4, hc_4, hm0⟩ := rc_bd_inv hm
      clear hm
      refine rc_cv hS (va_runV (As := [.int u1]) (rest := []) ⟨hx, hb, hml, hown, hts⟩ (k_X1_dropBarrel l hT (rf a0 0) u1 (rc_t_8_0 hT h0) H.size _ _ _ hc_4) (cwV 1 hts (rc_gV tw_4_71 tw_4_72 tw_4_73 tw_1_3 tw_4_74) rfl rfl rfl (by decide +kernel) ⟨Nat.le_of_ble_eq_true rfl, Nat.le_of_ble_eq_true rfl⟩) (rc_preV hT hW hK hE hS (rc_t_8_0 hT h0) (by decide) rfl (q := (RX1, TX1, 14)) rfl [.int u1]) rfl rfl hl.1 rfl (lv_room (Nat.le_of_ble_eq_true rfl)) dX7_removeBarrel_68 ⟨Nat.le_of_ble_eq_true rfl, Nat.le_of_ble_eq_true rfl⟩) (fun H locs hW hS => ?_)
      have hm := hm0
      clear hm0 hc_4
      refine lv_aload_n hx hb dX7_removeBarrel_71 rfl (lv_at hl 0 rfl) ?_
      refine rg_8_0 hx hb hts hown hK hW h0 tw_1_226 dX7_removeBarrel_72 ?_
      refine rg_2_2 hx hb hts hown hK hW (rc_t_8_0 hT h0) tw_1_147 dX7_removeBarrel_75 ?_
      exact rc_eiret hx hb hr hlocks hW hS (Nat.le_of_ble_eq_true rfl) (Nat.le_of_ble_eq_true rfl) hm dX7_removeBarrel_78
    · replace hm := rc_t hm c_7
      refine lv_aload_n hx hb dX7_removeBarrel_42 rfl (lv_at hl 0 rfl) ?_
      refine rg_8_1 hx hb hts hown hK hW h0 tw_1_228 dX7_removeBarrel_43 ?_
      refine lv_iconst (v := 5) hx hb dX7_removeBarrel_46 (by decide) ?_
      refine lv_aload_n hx hb dX7_removeBarrel_47 rfl (lv_at hl 0 rfl) ?_
      refine rg_8_0 hx hb hts hown hK hW h0 tw_1_226 dX7_removeBarrel_48 ?_
      refine rg_2_1 hx hb hts hown hK hW (rc_t_8_0 hT h0) tw_1_144 dX7_removeBarrel_51 ?_
      refine lv_iload_n hx hb dX7_removeBarrel_54 rfl (lv_at hl 1 rfl) ?_
      have hi_5 := (rc_ix hm).1
      replace hm := (rc_ix hm).2
      refine rc_aald hx hb hK hW (rc_t_2_1 hT (rc_t_8_0 hT h0)) (by decide) rfl 4 rfl hi_5 dX7_removeBarrel_55 ?_
      refine rg_1_1 hx hb hts hown hK hW (rc_t_25 hT (rc_t_2_1 hT (rc_t_8_0 hT h0)) hi_5) tw_1_90 dX7_removeBarrel_56 ?_
      obtain ⟨w_6, σ_6, hc_6, hm0⟩ := rc_bd_inv hm
      clear hm
      refine rc_ci hS (va_runV (As := [.int (5 : Int32), .int (σ_3 (rf (rf (rf a0 0) 1) u1.toNatClampNeg) 1)]) (rest := []) ⟨hx, hb, hml, hown, hts⟩ (k_X5_because l hT (rf a0 1) (5 : Int32) (σ_3 (rf (rf (rf a0 0) 1) u1.toNatClampNeg) 1) (rc_t_8_1 hT h0) H.size _ _ _ hc_6) (cwV 2 hts (rc_gV tw_3_180 tw_3_181 tw_3_182 tw_1_7 tw_3_183) rfl rfl rfl (by decide +kernel) ⟨Nat.le_of_ble_eq_true rfl, Nat.le_of_ble_eq_true rfl⟩) (rc_preV hT hW hK hE hS (rc_t_8_1 hT h0) (by decide) rfl (q := (RX5, TX5, 3)) rfl [.int (5 : Int32), .int (σ_3 (rf (rf (rf a0 0) 1) u1.toNatClampNeg) 1)]) rfl rfl hl.1 rfl (lv_room (Nat.le_of_ble_eq_true rfl)) dX7_removeBarrel_59 ⟨Nat.le_of_ble_eq_true rfl, Nat.le_of_ble_eq_true rfl⟩) (fun H locs hW hS => ?_)
      have hm := hm0
      clear hm0 hc_6
      exact rc_eiret hx hb hr hlocks hW hS (Nat.le_of_ble_eq_true rfl) (Nat.le_of_ble_eq_true rfl) hm dX7_removeBarrel_62
  · replace hm := rc_t hm c_9
    refine lv_aload_n hx hb dX7_removeBarrel_11 rfl (lv_at hl 0 rfl) ?_
    refine rg_8_1 hx hb hts hown hK hW h0 tw_1_228 dX7_removeBarrel_12 ?_
    refine lv_iconst (v := 3) hx hb dX7_removeBarrel_15 (by decide) ?_
    refine lv_aload_n hx hb dX7_removeBarrel_16 rfl (lv_at hl 0 rfl) ?_
    refine rg_8_0 hx hb hts hown hK hW h0 tw_1_226 dX7_removeBarrel_17 ?_
    refine rg_2_2 hx hb hts hown hK hW (rc_t_8_0 hT h0) tw_1_147 dX7_removeBarrel_20 ?_
    obtain ⟨w_8, σ_8, hc_8, hm0⟩ := rc_bd_inv hm
    clear hm
    refine rc_ci hS (va_runV (As := [.int (3 : Int32), .int (σ_1 (rf a0 0) 2)]) (rest := []) ⟨hx, hb, hml, hown, hts⟩ (k_X5_because l hT (rf a0 1) (3 : Int32) (σ_1 (rf a0 0) 2) (rc_t_8_1 hT h0) H.size _ _ _ hc_8) (cwV 2 hts (rc_gV tw_3_180 tw_3_181 tw_3_182 tw_1_7 tw_3_183) rfl rfl rfl (by decide +kernel) ⟨Nat.le_of_ble_eq_true rfl, Nat.le_of_ble_eq_true rfl⟩) (rc_preV hT hW hK hE hS (rc_t_8_1 hT h0) (by decide) rfl (q := (RX5, TX5, 3)) rfl [.int (3 : Int32), .int (σ_1 (rf a0 0) 2)]) rfl rfl hl.1 rfl (lv_room (Nat.le_of_ble_eq_true rfl)) dX7_removeBarrel_23 ⟨Nat.le_of_ble_eq_true rfl, Nat.le_of_ble_eq_true rfl⟩) (fun H locs hW hS => ?_)
    have hm := hm0
    clear hm0 hc_8
    exact rc_eiret hx hb hr hlocks hW hS (Nat.le_of_ble_eq_true rfl) (Nat.le_of_ble_eq_true rfl) hm dX7_removeBarrel_26
set_option maxHeartbeats 4000000 in
set_option maxRecDepth 100000 in
theorem k_X7_adulterate (l : Launch) {Y : rc_Y} {sh : Nat → Nat} {rf : rc_F} (hT : rc_T Y sh rf) (a0 : Nat) (u1 : Int32) (u2 : Int32) (h0 : sh a0 = 8) (sz : Nat) (σ σ' : rc_S) (r : Int32) (hm : f_X7_adulterate rf a0 u1 u2 σ = some (r, σ')) : Met l yX7_adulterate (Cond.code yX7_adulterate cX7_adulterate 4 (some .int) :: rc_big) ({ frames := 2, cells := 0, slots := 0, locals := 42 } : Room) (rc_P Y sh rf σ sz [.ref a0, .int u1, .int u2]) (va_Qi (fun (r' : Int32) (_ : Unit) => r' = r) (fun _ t => rc_W Y sh rf σ' t.heap) (rc_A sh sz)) 0 0 (rc_A sh sz) := by
  refine Met.ofW (cc := cX7_adulterate) (maxL := 4) (ret := (some .int)) (by decide +kernel) rfl ?_
  intro p e s m args below meth c s₁ B hml hv
  obtain ⟨rfl, hsz, hW, hK, hE⟩ := hv
  have hx := B.exec
  have hb := B.bytes
  have hr := B.returns
  have hts : ∀ w ∈ rc_big, w.before _ s = true := fun w h => atoms_spec (ws := Cond.code yX7_adulterate cX7_adulterate 4 (some .int) :: rc_big) B.pre w (List.mem_cons_of_mem _ h)
  have hown : s.vm.findClass RX7 = some m.cls := findClass_of_methodNamed B.named
  have hlocks := B.notSynchronized
  clear B
  subst hsz
  have hS : va_S (rc_A sh s.heap.size) s.heap s.heap [] := va_S.rf
  have hl := lv_entry ([.ref a0, .int u1, .int u2]) (n := 4) (Nat.le_of_ble_eq_true rfl)
  rw [lg_entry_eq]
  generalize (lg_sl ([.ref a0, .int u1, .int u2]) ++ List.replicate (4 - (lg_sl ([.ref a0, .int u1, .int u2])).length) Slot.unset).toArray = ls at hl ⊢
  have hl : lv_has ls 4 [(0, .ref a0), (1, .int u1), (2, .int u2)] := hl
  unfold f_X7_adulterate at hm
  refine lv_aload_n hx hb dX7_adulterate_0 rfl (lv_at hl 0 rfl) ?_
  refine rg_8_0 hx hb hts hown hK hW h0 tw_1_226 dX7_adulterate_1 ?_
  refine lv_iload_n hx hb dX7_adulterate_4 rfl (lv_at hl 1 rfl) ?_
  obtain ⟨w_1, σ_1, hc_1, hm0⟩ := rc_bd_inv hm
  clear hm
  refine rc_ci hS (va_runV (As := [.int u1]) (rest := []) ⟨hx, hb, hml, hown, hts⟩ (k_X1_hasBarrel l hT (rf a0 0) u1 (rc_t_8_0 hT h0) s.heap.size _ _ _ hc_1) (cwV 1 hts (rc_gV tw_4_70 tw_2_214 tw_2_215 tw_1_3 tw_2_216) rfl rfl rfl (by decide +kernel) ⟨Nat.le_of_ble_eq_true rfl, Nat.le_of_ble_eq_true rfl⟩) (rc_preV hT hW hK hE hS (rc_t_8_0 hT h0) (by decide) rfl (q := (RX1, TX1, 14)) rfl [.int u1]) rfl rfl hl.1 rfl (lv_room (Nat.le_of_ble_eq_true rfl)) dX7_adulterate_5 ⟨Nat.le_of_ble_eq_true rfl, Nat.le_of_ble_eq_true rfl⟩) (fun H locs hW hS => ?_)
  have hm := hm0
  clear hm0 hc_1
  refine lv_if_ne (tgt := 27) hx hb dX7_adulterate_8 (by decide) (fun c_21 => ?_) (fun c_21 => ?_)
  · replace hm := rc_f hm c_21
    refine lv_iload_n hx hb dX7_adulterate_27 rfl (lv_at hl 2 rfl) ?_
    refine lv_iconst (v := 1) hx hb dX7_adulterate_28 (by decide) ?_
    refine lv_bipush (v := 9) hx hb dX7_adulterate_29 (by decide) ?_
    obtain ⟨w_2, σ_2, hc_2, hm0⟩ := rc_bd_inv hm
    clear hm
    refine rc_ci hS (va_runSN (As := [.int u2, .int (1 : Int32), .int (9 : Int32)]) (rest := []) ⟨hx, hb, hml, hown, hts⟩ (k_X8_isOutside l hT u2 (1 : Int32) (9 : Int32)  H.size _ _ _ hc_2) ⟨va_cnB 3 hts (rc_gI tw_3_78) rfl rfl rfl (rc_E_nw hE _ nw_3_179) (hts _ tw_1_1) (by decide +kernel) ⟨Nat.le_of_ble_eq_true rfl, Nat.le_of_ble_eq_true rfl⟩, hts _ tw_3_77, trivial⟩ (rc_preS hT hW hK hE hS [.int u2, .int (1 : Int32), .int (9 : Int32)]) rfl rfl hl.1 rfl (lv_room (Nat.le_of_ble_eq_true rfl)) dX7_adulterate_31 ⟨Nat.le_of_ble_eq_true rfl, Nat.le_of_ble_eq_true rfl⟩) (fun H locs hW hS => ?_)
    have hm := hm0
    clear hm0 hc_2
    refine lv_if_eq (tgt := 47) hx hb dX7_adulterate_34 (by decide) (fun c_19 => ?_) (fun c_19 => ?_)
    · replace hm := rc_t hm c_19
      refine lv_aload_n hx hb dX7_adulterate_47 rfl (lv_at hl 0 rfl) ?_
      refine rg_8_0 hx hb hts hown hK hW h0 tw_1_226 dX7_adulterate_48 ?_
      refine rg_2_1 hx hb hts hown hK hW (rc_t_8_0 hT h0) tw_1_144 dX7_adulterate_51 ?_
      refine lv_iload_n hx hb dX7_adulterate_54 rfl (lv_at hl 1 rfl) ?_
      have hi_3 := (rc_ix hm).1
      replace hm := (rc_ix hm).2
      refine rc_aald hx hb hK hW (rc_t_2_1 hT (rc_t_8_0 hT h0)) (by decide) rfl 4 rfl hi_3 dX7_adulterate_55 ?_
      refine lv_astore_n (lv' := [(3, .ref (rf (rf (rf a0 0) 1) u1.toNatClampNeg)), (0, .ref a0), (1, .int u1), (2, .int u2)]) hx hb dX7_adulterate_56 rfl hl (by decide) rfl (fun ls hl => ?_)
      refine lv_aload_n hx hb dX7_adulterate_57 rfl (lv_at hl 0 rfl) ?_
      obtain ⟨w_4, σ_4, hc_4, hm0⟩ := rc_bd_inv hm
      clear hm
      refine rc_ci hS (va_runV (As := []) (rest := []) ⟨hx, hb, hml, hown, hts⟩ (k_X0_isEmpty l hT (rf (rf (rf a0 0) 1) u1.toNatClampNeg) (rc_t_25 hT (rc_t_2_1 hT (rc_t_8_0 hT h0)) hi_3) H.size _ _ _ hc_4) (cwV 0 hts (rc_gV tw_3_231 tw_2_239 tw_3_0 tw_1_5 tw_3_1) rfl rfl rfl (by decide +kernel) ⟨Nat.le_of_ble_eq_true rfl, Nat.le_of_ble_eq_true rfl⟩) (rc_preV hT hW hK hE hS (rc_t_25 hT (rc_t_2_1 hT (rc_t_8_0 hT h0)) hi_3) (by decide) rfl (q := (RX0, TX0, 6)) rfl []) rfl rfl hl.1 rfl (lv_room (Nat.le_of_ble_eq_true rfl)) dX7_adulterate_58 ⟨Nat.le_of_ble_eq_true rfl, Nat.le_of_ble_eq_true rfl⟩) (fun H locs hW hS => ?_)
      have hm := hm0
      clear hm0 hc_4
      refine lv_if_eq (tgt := 75) hx hb dX7_adulterate_61 (by decide) (fun c_17 => ?_) (fun c_17 => ?_)
      · replace hm := rc_t hm c_17
        refine lv_aload_n hx hb dX7_adulterate_75 rfl (lv_at hl 1 rfl) ?_
        refine rg_8_0 hx hb hts hown hK hW h0 tw_1_226 dX7_adulterate_76 ?_
        refine rg_2_6 hx hb hts hown hK hW (rc_t_8_0 hT h0) tw_1_157 dX7_adulterate_79 ?_
        refine lv_iload_n hx hb dX7_adulterate_82 rfl (lv_at hl 3 rfl) ?_
        refine lv_icmp_ge (tgt := 103) hx hb dX7_adulterate_83 (by decide) (fun c_15 => ?_) (fun c_15 => ?_)
        · replace hm := rc_t hm c_15
          refine lv_aload_n hx hb dX7_adulterate_103 rfl (lv_at hl 0 rfl) ?_
          obtain ⟨w_5, σ_5, hc_5, hm0⟩ := rc_bd_inv hm
          clear hm
          refine rc_ci hS (va_runV (As := []) (rest := []) ⟨hx, hb, hml, hown, hts⟩ (k_X0_room l hT (rf (rf (rf a0 0) 1) u1.toNatClampNeg) (rc_t_25 hT (rc_t_2_1 hT (rc_t_8_0 hT h0)) hi_3) H.size _ _ _ hc_5) (cwV 0 hts (rc_gV tw_4_86 tw_4_87 tw_4_88 tw_1_5 tw_4_89) rfl rfl rfl (by decide +kernel) ⟨Nat.le_of_ble_eq_true rfl, Nat.le_of_ble_eq_true rfl⟩) (rc_preV hT hW hK hE hS (rc_t_25 hT (rc_t_2_1 hT (rc_t_8_0 hT h0)) hi_3) (by decide) rfl (q := (RX0, TX0, 6)) rfl []) rfl rfl hl.1 rfl (lv_room (Nat.le_of_ble_eq_true rfl)) dX7_adulterate_104 ⟨Nat.le_of_ble_eq_true rfl, Nat.le_of_ble_eq_true rfl⟩) (fun H locs hW hS => ?_)
          have hm := hm0
          clear hm0 hc_5
          refine lv_iload_n hx hb dX7_adulterate_107 rfl (lv_at hl 3 rfl) ?_
          refine lv_icmp_ge (tgt := 125) hx hb dX7_adulterate_108 (by decide) (fun c_13 => ?_) (fun c_13 => ?_)
          · replace hm := rc_t hm c_13
            refine lv_aload_n hx hb dX7_adulterate_125 rfl (lv_at hl 0 rfl) ?_
            refine lv_dup hx hb dX7_adulterate_126 rfl ?_
            refine rg_1_1 hx hb hts hown hK hW (rc_t_25 hT (rc_t_2_1 hT (rc_t_8_0 hT h0)) hi_3) tw_1_90 dX7_adulterate_127 ?_
            refine lv_iload_n hx hb dX7_adulterate_130 rfl (lv_at hl 3 rfl) ?_
            refine lv_iadd hx hb dX7_adulterate_131 ?_
            refine rp_1_1 hx hb hts hown hK hW hS (rc_t_25 hT (rc_t_2_1 hT (rc_t_8_0 hT h0)) hi_3) tw_1_90 dX7_adulterate_132 (fun σ_6 H locs eσ hW hS => ?_)
            replace hm := rc_lt_at hm eσ
            clear eσ
            refine lv_aload_n hx hb dX7_adulterate_135 rfl (lv_at hl 0 rfl) ?_
            refine lv_dup hx hb dX7_adulterate_136 rfl ?_
            refine rg_1_2 hx hb hts hown hK hW (rc_t_25 hT (rc_t_2_1 hT (rc_t_8_0 hT h0)) hi_3) tw_1_94 dX7_adulterate_137 ?_
            refine lv_iload_n hx hb dX7_adulterate_140 rfl (lv_at hl 3 rfl) ?_
            refine lv_iadd hx hb dX7_adulterate_141 ?_
            refine rp_1_2 hx hb hts hown hK hW hS (rc_t_25 hT (rc_t_2_1 hT (rc_t_8_0 hT h0)) hi_3) tw_1_94 dX7_adulterate_142 (fun σ_7 H locs eσ hW hS => ?_)
            replace hm := rc_lt_at hm eσ
            clear eσ
            refine lv_aload_n hx hb dX7_adulterate_145 rfl (lv_at hl 1 rfl) ?_
            refine rg_8_0 hx hb hts hown hK hW h0 tw_1_226 dX7_adulterate_146 ?_
            refine lv_dup hx hb dX7_adulterate_149 rfl ?_
            refine rg_2_6 hx hb hts hown hK hW (rc_t_8_0 hT h0) tw_1_157 dX7_adulterate_150 ?_
            refine lv_iload_n hx hb dX7_adulterate_153 rfl (lv_at hl 3 rfl) ?_
            refine lv_isub hx hb dX7_adulterate_154 ?_
            refine rp_2_6 hx hb hts hown hK hW hS (rc_t_8_0 hT h0) tw_1_157 dX7_adulterate_155 (fun σ_8 H locs eσ hW hS => ?_)
            replace hm := rc_lt_at hm eσ
            clear eσ
            refine lv_aload_n hx hb dX7_adulterate_158 rfl (lv_at hl 1 rfl) ?_
            refine rg_8_0 hx hb hts hown hK hW h0 tw_1_226 dX7_adulterate_159 ?_
            refine lv_dup hx hb dX7_adulterate_162 rfl ?_
            refine rg_2_9 hx hb hts hown hK hW (rc_t_8_0 hT h0) tw_1_166 dX7_adulterate_163 ?_
            refine lv_iload_n hx hb dX7_adulterate_166 rfl (lv_at hl 3 rfl) ?_
            refine lv_iadd hx hb dX7_adulterate_167 ?_
            refine rp_2_9 hx hb hts hown hK hW hS (rc_t_8_0 hT h0) tw_1_166 dX7_adulterate_168 (fun σ_9 H locs eσ hW hS => ?_)
            replace hm := rc_lt_at hm eσ
            clear eσ
            refine lv_aload_n hx hb dX7_adulterate_171 rfl (lv_at hl 0 rfl) ?_
            obtain ⟨w_10, σ_10, hc_10, hm0⟩ := rc_bd_inv hm
            clear hm
            refine rc_ci hS (va_runV (As := []) (rest := []) ⟨hx, hb, hml, hown, hts⟩ (k_X0_hailPart l hT (rf (rf (rf a0 0) 1) u1.toNatClampNeg) (rc_t_25 hT (rc_t_2_1 hT (rc_t_8_0 hT h0)) hi_3) H.size _ _ _ hc_10) (cwV 0 hts (rc_gV tw_4_90 tw_3_38 tw_3_39 tw_1_5 tw_3_40) rfl rfl rfl (by decide +kernel) ⟨Nat.le_of_ble_eq_true rfl, Nat.le_of_ble_eq_true rfl⟩) (rc_preV hT hW hK hE hS (rc_t_25 hT (rc_t_2_1 hT (rc_t_8_0 hT h0)) hi_3) (by decide) rfl (q := (RX0, TX0, 6)) rfl []) rfl rfl hl.1 rfl (lv_room (Nat.le_of_ble_eq_true rfl)) dX7_adulterate_172 ⟨Nat.le_of_ble_eq_true rfl, Nat.le_of_ble_eq_true rfl⟩) (fun H locs hW hS => ?_)
            have hm := hm0
            clear hm0 hc_10
            exact rc_eiret hx hb hr hlocks hW hS (Nat.le_of_ble_eq_true rfl) (Nat.le_of_ble_eq_true rfl) hm dX7_adulterate_175
          · replace hm := rc_f hm c_13
            refine lv_aload_n hx hb dX7_adulterate_111 rfl (lv_at hl 1 rfl) ?_
            refine rg_8_1 hx hb hts hown hK hW h0 tw_1_228 dX7_adulterate_112 ?_
            refine lv_bipush (v := 7) hx hb dX7_adulterate_115 (by decide) ?_
            refine lv_aload_n hx hb dX7_adulterate_117 rfl (lv_at hl 0 rfl) ?_
            obtain ⟨w_11, σ_11, hc_11, hm0⟩ := rc_bd_inv hm
            clear hm
            refine rc_ci hS (va_runV (As := []) (rest := [.int (7 : Int32), .ref (rf a0 1)]) ⟨hx, hb, hml, hown, hts⟩ (k_X0_room l hT (rf (rf (rf a0 0) 1) u1.toNatClampNeg) (rc_t_25 hT (rc_t_2_1 hT (rc_t_8_0 hT h0)) hi_3) H.size _ _ _ hc_11) (cwV 0 hts (rc_gV tw_4_86 tw_4_87 tw_4_88 tw_1_5 tw_4_89) rfl rfl rfl (by decide +kernel) ⟨Nat.le_of_ble_eq_true rfl, Nat.le_of_ble_eq_true rfl⟩) (rc_preV hT hW hK hE hS (rc_t_25 hT (rc_t_2_1 hT (rc_t_8_0 hT h0)) hi_3) (by decide) rfl (q := (RX0, TX0, 6)) rfl []) rfl rfl hl.1 rfl (lv_room (Nat.le_of_ble_eq_true rfl)) dX7_adulterate_118 ⟨Nat.le_of_ble_eq_true rfl, Nat.le_of_ble_eq_true rfl⟩) (fun H locs hW hS => ?_)
            have hm := hm0
            clear hm0 hc_11
            obtain ⟨w_12, σ_12, hc_12, hm0⟩ := rc_bd_inv hm
            clear hm
            refine rc_ci hS (va_runV (As := [.int (7 : Int32), .int w_11]) (rest := []) ⟨hx, hb, hml, hown, hts⟩ (k_X5_because l hT (rf a0 1) (7 : Int32) w_11 (rc_t_8_1 hT h0) H.size _ _ _ hc_12) (cwV 2 hts (rc_gV tw_3_180 tw_3_181 tw_3_182 tw_1_7 tw_3_183) rfl rfl rfl (by decide +kernel) ⟨Nat.le_of_ble_eq_true rfl, Nat.le_of_ble_eq_true rfl⟩) (rc_preV hT hW hK hE hS (rc_t_8_1 hT h0) (by decide) rfl (q := (RX5, TX5, 3)) rfl [.int (7 : Int32), .int w_11]) rfl rfl hl.1 rfl (lv_room (Nat.le_of_ble_eq_true rfl)) dX7_adulterate_121 ⟨Nat.le_of_ble_eq_true rfl, Nat.le_of_ble_eq_true rfl⟩) (fun H locs hW hS => ?_)
            have hm := hm0
            clear hm0 hc_12
            exact rc_eiret hx hb hr hlocks hW hS (Nat.le_of_ble_eq_true rfl) (Nat.le_of_ble_eq_true rfl) hm dX7_adulterate_124
        · replace hm := rc_f hm c_15
          refine lv_aload_n hx hb dX7_adulterate_86 rfl (lv_at hl 1 rfl) ?_
          refine rg_8_1 hx hb hts hown hK hW h0 tw_1_228 dX7_adulterate_87 ?_
          refine lv_bipush (v := 10) hx hb dX7_adulterate_90 (by decide) ?_
          refine lv_aload_n hx hb dX7_adulterate_92 rfl (lv_at hl 1 rfl) ?_
          refine rg_8_0 hx hb hts hown hK hW h0 tw_1_226 dX7_adulterate_93 ?_
          refine rg_2_6 hx hb hts hown hK hW (rc_t_8_0 hT h0) tw_1_157 dX7_adulterate_96 ?_
          obtain ⟨w_14, σ_14, hc_14, hm0⟩ := rc_bd_inv hm
          clear hm
          refine rc_ci hS (va_runV (As := [.int (10 : Int32), .int (σ_4 (rf a0 0) 6)]) (rest := []) ⟨hx, hb, hml, hown, hts⟩ (k_X5_because l hT (rf a0 1) (10 : Int32) (σ_4 (rf a0 0) 6) (rc_t_8_1 hT h0) H.size _ _ _ hc_14) (cwV 2 hts (rc_gV tw_3_180 tw_3_181 tw_3_182 tw_1_7 tw_3_183) rfl rfl rfl (by decide +kernel) ⟨Nat.le_of_ble_eq_true rfl, Nat.le_of_ble_eq_true rfl⟩) (rc_preV hT hW hK hE hS (rc_t_8_1 hT h0) (by decide) rfl (q := (RX5, TX5, 3)) rfl [.int (10 : Int32), .int (σ_4 (rf a0 0) 6)]) rfl rfl hl.1 rfl (lv_room (Nat.le_of_ble_eq_true rfl)) dX7_adulterate_99 ⟨Nat.le_of_ble_eq_true rfl, Nat.le_of_ble_eq_true rfl⟩) (fun H locs hW hS => ?_)
          have hm := hm0
          clear hm0 hc_14
          exact rc_eiret hx hb hr hlocks hW hS (Nat.le_of_ble_eq_true rfl) (Nat.le_of_ble_eq_true rfl) hm dX7_adulterate_102
      · replace hm := rc_f hm c_17
        refine lv_aload_n hx hb dX7_adulterate_64 rfl (lv_at hl 1 rfl) ?_
        refine rg_8_1 hx hb hts hown hK hW h0 tw_1_228 dX7_adulterate_65 ?_
        refine lv_bipush (v := 6) hx hb dX7_adulterate_68 (by decide) ?_
        refine lv_iconst (v := 0) hx hb dX7_adulterate_70 (by decide) ?_
        obtain ⟨w_16, σ_16, hc_16, hm0⟩ := rc_bd_inv hm
        clear hm
        refine rc_ci hS (va_runV (As := [.int (6 : Int32), .int (0 : Int32)]) (rest := []) ⟨hx, hb, hml, hown, hts⟩ (k_X5_because l hT (rf a0 1) (6 : Int32) (0 : Int32) (rc_t_8_1 hT h0) H.size _ _ _ hc_16) (cwV 2 hts (rc_gV tw_3_180 tw_3_181 tw_3_182 tw_1_7 tw_3_183) rfl rfl rfl (by decide +kernel) ⟨Nat.le_of_ble_eq_true rfl, Nat.le_of_ble_eq_true rfl⟩) (rc_preV hT hW hK hE hS (rc_t_8_1 hT h0) (by decide) rfl (q := (RX5, TX5, 3)) rfl [.int (6 : Int32), .int (0 : Int32)]) rfl rfl hl.1 rfl (lv_room (Nat.le_of_ble_eq_true rfl)) dX7_adulterate_71 ⟨Nat.le_of_ble_eq_true rfl, Nat.le_of_ble_eq_true rfl⟩) (fun H locs hW hS => ?_)
        have hm := hm0
        clear hm0 hc_16
        exact rc_eiret hx hb hr hlocks hW hS (Nat.le_of_ble_eq_true rfl) (Nat.le_of_ble_eq_true rfl) hm dX7_adulterate_74
    · replace hm := rc_f hm c_19
      refine lv_aload_n hx hb dX7_adulterate_37 rfl (lv_at hl 0 rfl) ?_
      refine rg_8_1 hx hb hts hown hK hW h0 tw_1_228 dX7_adulterate_38 ?_
      refine lv_iconst (v := 1) hx hb dX7_adulterate_41 (by decide) ?_
      refine lv_iconst (v := 0) hx hb dX7_adulterate_42 (by decide) ?_
      obtain ⟨w_18, σ_18, hc_18, hm0⟩ := rc_bd_inv hm
      clear hm
      refine rc_ci hS (va_runV (As := [.int (1 : Int32), .int (0 : Int32)]) (rest := []) ⟨hx, hb, hml, hown, hts⟩ (k_X5_because l hT (rf a0 1) (1 : Int32) (0 : Int32) (rc_t_8_1 hT h0) H.size _ _ _ hc_18) (cwV 2 hts (rc_gV tw_3_180 tw_3_181 tw_3_182 tw_1_7 tw_3_183) rfl rfl rfl (by decide +kernel) ⟨Nat.le_of_ble_eq_true rfl, Nat.le_of_ble_eq_true rfl⟩) (rc_preV hT hW hK hE hS (rc_t_8_1 hT h0) (by decide) rfl (q := (RX5, TX5, 3)) rfl [.int (1 : Int32), .int (0 : Int32)]) rfl rfl hl.1 rfl (lv_room (Nat.le_of_ble_eq_true rfl)) dX7_adulterate_43 ⟨Nat.le_of_ble_eq_true rfl, Nat.le_of_ble_eq_true rfl⟩) (fun H locs hW hS => ?_)
      have hm := hm0
      clear hm0 hc_18
      exact rc_eiret hx hb hr hlocks hW hS (Nat.le_of_ble_eq_true rfl) (Nat.le_of_ble_eq_true rfl) hm dX7_adulterate_46
  · replace hm := rc_t hm c_21
    refine lv_aload_n hx hb dX7_adulterate_11 rfl (lv_at hl 0 rfl) ?_
    refine rg_8_1 hx hb hts hown hK hW h0 tw_1_228 dX7_adulterate_12 ?_
    refine lv_iconst (v := 3) hx hb dX7_adulterate_15 (by decide) ?_
    refine lv_aload_n hx hb dX7_adulterate_16 rfl (lv_at hl 0 rfl) ?_
    refine rg_8_0 hx hb hts hown hK hW h0 tw_1_226 dX7_adulterate_17 ?_
    refine rg_2_2 hx hb hts hown hK hW (rc_t_8_0 hT h0) tw_1_147 dX7_adulterate_20 ?_
    obtain ⟨w_20, σ_20, hc_20, hm0⟩ := rc_bd_inv hm
    clear hm
    refine rc_ci hS (va_runV (As := [.int (3 : Int32), .int (σ_1 (rf a0 0) 2)]) (rest := []) ⟨hx, hb, hml, hown, hts⟩ (k_X5_because l hT (rf a0 1) (3 : Int32) (σ_1 (rf a0 0) 2) (rc_t_8_1 hT h0) H.size _ _ _ hc_20) (cwV 2 hts (rc_gV tw_3_180 tw_3_181 tw_3_182 tw_1_7 tw_3_183) rfl rfl rfl (by decide +kernel) ⟨Nat.le_of_ble_eq_true rfl, Nat.le_of_ble_eq_true rfl⟩) (rc_preV hT hW hK hE hS (rc_t_8_1 hT h0) (by decide) rfl (q := (RX5, TX5, 3)) rfl [.int (3 : Int32), .int (σ_1 (rf a0 0) 2)]) rfl rfl hl.1 rfl (lv_room (Nat.le_of_ble_eq_true rfl)) dX7_adulterate_23 ⟨Nat.le_of_ble_eq_true rfl, Nat.le_of_ble_eq_true rfl⟩) (fun H locs hW hS => ?_)
    have hm := hm0
    clear hm0 hc_20
    exact rc_eiret hx hb hr hlocks hW hS (Nat.le_of_ble_eq_true rfl) (Nat.le_of_ble_eq_true rfl) hm dX7_adulterate_26
set_option maxHeartbeats 4000000 in
set_option maxRecDepth 100000 in
theorem k_X7_letCome (l : Launch) {Y : rc_Y} {sh : Nat → Nat} {rf : rc_F} (hT : rc_T Y sh rf) (a0 : Nat) (u1 : Int32) (u2 : Int32) (h0 : sh a0 = 8) (sz : Nat) (σ σ' : rc_S) (r : Int32) (hm : f_X7_letCome rf a0 u1 u2 σ = some (r, σ')) : Met l yX7_letCome (Cond.code yX7_letCome cX7_letCome 3 (some .int) :: rc_big) ({ frames := 1, cells := 0, slots := 0, locals := 22 } : Room) (rc_P Y sh rf σ sz [.ref a0, .int u1, .int u2]) (va_Qi (fun (r' : Int32) (_ : Unit) => r' = r) (fun _ t => rc_W Y sh rf σ' t.heap) (rc_A sh sz)) 0 0 (rc_A sh sz) := by
  refine Met.ofW (cc := cX7_letCome) (maxL := 3) (ret := (some .int)) (by decide +kernel) rfl ?_
  intro p e s m args below meth c s₁ B hml hv
  obtain ⟨rfl, hsz, hW, hK, hE⟩ := hv
  have hx := B.exec
  have hb := B.bytes
  have hr := B.returns
  have hts : ∀ w ∈ rc_big, w.before _ s = true := fun w h => atoms_spec (ws := Cond.code yX7_letCome cX7_letCome 3 (some .int) :: rc_big) B.pre w (List.mem_cons_of_mem _ h)
  have hown : s.vm.findClass RX7 = some m.cls := findClass_of_methodNamed B.named
  have hlocks := B.notSynchronized
  clear B
  subst hsz
  have hS : va_S (rc_A sh s.heap.size) s.heap s.heap [] := va_S.rf
  have hl := lv_entry ([.ref a0, .int u1, .int u2]) (n := 3) (Nat.le_of_ble_eq_true rfl)
  rw [lg_entry_eq]
  generalize (lg_sl ([.ref a0, .int u1, .int u2]) ++ List.replicate (3 - (lg_sl ([.ref a0, .int u1, .int u2])).length) Slot.unset).toArray = ls at hl ⊢
  have hl : lv_has ls 3 [(0, .ref a0), (1, .int u1), (2, .int u2)] := hl
  unfold f_X7_letCome at hm
  refine lv_iload_n hx hb dX7_letCome_0 rfl (lv_at hl 1 rfl) ?_
  refine lv_iconst (v := 0) hx hb dX7_letCome_1 (by decide) ?_
  refine lv_bipush (v := 9) hx hb dX7_letCome_2 (by decide) ?_
  obtain ⟨w_1, σ_1, hc_1, hm0⟩ := rc_bd_inv hm
  clear hm
  refine rc_ci hS (va_runSN (As := [.int u1, .int (0 : Int32), .int (9 : Int32)]) (rest := []) ⟨hx, hb, hml, hown, hts⟩ (k_X8_isOutside l hT u1 (0 : Int32) (9 : Int32)  s.heap.size _ _ _ hc_1) ⟨va_cnB 3 hts (rc_gI tw_3_78) rfl rfl rfl (rc_E_nw hE _ nw_3_179) (hts _ tw_1_1) (by decide +kernel) ⟨Nat.le_of_ble_eq_true rfl, Nat.le_of_ble_eq_true rfl⟩, hts _ tw_3_77, trivial⟩ (rc_preS hT hW hK hE hS [.int u1, .int (0 : Int32), .int (9 : Int32)]) rfl rfl hl.1 rfl (lv_room (Nat.le_of_ble_eq_true rfl)) dX7_letCome_4 ⟨Nat.le_of_ble_eq_true rfl, Nat.le_of_ble_eq_true rfl⟩) (fun H locs hW hS => ?_)
  have hm := hm0
  clear hm0 hc_1
  refine lv_if_eq (tgt := 20) hx hb dX7_letCome_7 (by decide) (fun c_6 => ?_) (fun c_6 => ?_)
  · replace hm := rc_t hm c_6
    refine lv_aload_n hx hb dX7_letCome_20 rfl (lv_at hl 0 rfl) ?_
    refine rg_8_0 hx hb hts hown hK hW h0 tw_1_226 dX7_letCome_21 ?_
    refine rg_2_3 hx hb hts hown hK hW (rc_t_8_0 hT h0) tw_1_150 dX7_letCome_24 ?_
    refine rg_4_2 hx hb hts hown hK hW (rc_t_2_3 hT (rc_t_8_0 hT h0)) tw_1_67 dX7_letCome_27 ?_
    refine lv_iconst (v := 4) hx hb dX7_letCome_30 (by decide) ?_
    refine lv_icmp_lt (tgt := 44) hx hb dX7_letCome_31 (by decide) (fun c_4 => ?_) (fun c_4 => ?_)
    · replace hm := rc_t hm c_4
      refine lv_aload_n hx hb dX7_letCome_44 rfl (lv_at hl 0 rfl) ?_
      refine rg_8_0 hx hb hts hown hK hW h0 tw_1_226 dX7_letCome_45 ?_
      refine rg_2_3 hx hb hts hown hK hW (rc_t_8_0 hT h0) tw_1_150 dX7_letCome_48 ?_
      refine lv_iload_n hx hb dX7_letCome_51 rfl (lv_at hl 1 rfl) ?_
      refine lv_iload_n hx hb dX7_letCome_52 rfl (lv_at hl 2 rfl) ?_
      obtain ⟨w_2, σ_2, hc_2, hm0⟩ := rc_bd_inv hm
      clear hm
      refine rc_cv hS (va_runV (As := [.int u1, .int u2]) (rest := []) ⟨hx, hb, hml, hown, hts⟩ (k_X3_add l hT (rf (rf a0 0) 3) u1 u2 (rc_t_2_3 hT (rc_t_8_0 hT h0)) H.size _ _ _ hc_2) (cwV 2 hts (rc_gV tw_4_25 tw_4_26 tw_4_27 tw_1_4 tw_4_28) rfl rfl rfl (by decide +kernel) ⟨Nat.le_of_ble_eq_true rfl, Nat.le_of_ble_eq_true rfl⟩) (rc_preV hT hW hK hE hS (rc_t_2_3 hT (rc_t_8_0 hT h0)) (by decide) rfl (q := (RX3, TX3, 3)) rfl [.int u1, .int u2]) rfl rfl hl.1 rfl (lv_room (Nat.le_of_ble_eq_true rfl)) dX7_letCome_53 ⟨Nat.le_of_ble_eq_true rfl, Nat.le_of_ble_eq_true rfl⟩) (fun H locs hW hS => ?_)
      have hm := hm0
      clear hm0 hc_2
      refine lv_aload_n hx hb dX7_letCome_56 rfl (lv_at hl 0 rfl) ?_
      refine rg_8_0 hx hb hts hown hK hW h0 tw_1_226 dX7_letCome_57 ?_
      refine rg_2_3 hx hb hts hown hK hW (rc_t_8_0 hT h0) tw_1_150 dX7_letCome_60 ?_
      refine rg_4_2 hx hb hts hown hK hW (rc_t_2_3 hT (rc_t_8_0 hT h0)) tw_1_67 dX7_letCome_63 ?_
      refine lv_iconst (v := 1) hx hb dX7_letCome_66 (by decide) ?_
      refine lv_isub hx hb dX7_letCome_67 ?_
      exact rc_eiret hx hb hr hlocks hW hS (Nat.le_of_ble_eq_true rfl) (Nat.le_of_ble_eq_true rfl) hm dX7_letCome_68
    · replace hm := rc_f hm c_4
      refine lv_aload_n hx hb dX7_letCome_34 rfl (lv_at hl 0 rfl) ?_
      refine rg_8_1 hx hb hts hown hK hW h0 tw_1_228 dX7_letCome_35 ?_
      refine lv_iconst (v := 2) hx hb dX7_letCome_38 (by decide) ?_
      refine lv_iconst (v := 4) hx hb dX7_letCome_39 (by decide) ?_
      obtain ⟨w_3, σ_3, hc_3, hm0⟩ := rc_bd_inv hm
      clear hm
      refine rc_ci hS (va_runV (As := [.int (2 : Int32), .int (4 : Int32)]) (rest := []) ⟨hx, hb, hml, hown, hts⟩ (k_X5_because l hT (rf a0 1) (2 : Int32) (4 : Int32) (rc_t_8_1 hT h0) H.size _ _ _ hc_3) (cwV 2 hts (rc_gV tw_3_180 tw_3_181 tw_3_182 tw_1_7 tw_3_183) rfl rfl rfl (by decide +kernel) ⟨Nat.le_of_ble_eq_true rfl, Nat.le_of_ble_eq_true rfl⟩) (rc_preV hT hW hK hE hS (rc_t_8_1 hT h0) (by decide) rfl (q := (RX5, TX5, 3)) rfl [.int (2 : Int32), .int (4 : Int32)]) rfl rfl hl.1 rfl (lv_room (Nat.le_of_ble_eq_true rfl)) dX7_letCome_40 ⟨Nat.le_of_ble_eq_true rfl, Nat.le_of_ble_eq_true rfl⟩) (fun H locs hW hS => ?_)
      have hm := hm0
      clear hm0 hc_3
      exact rc_eiret hx hb hr hlocks hW hS (Nat.le_of_ble_eq_true rfl) (Nat.le_of_ble_eq_true rfl) hm dX7_letCome_43
  · replace hm := rc_f hm c_6
    refine lv_aload_n hx hb dX7_letCome_10 rfl (lv_at hl 0 rfl) ?_
    refine rg_8_1 hx hb hts hown hK hW h0 tw_1_228 dX7_letCome_11 ?_
    refine lv_iconst (v := 1) hx hb dX7_letCome_14 (by decide) ?_
    refine lv_iconst (v := 0) hx hb dX7_letCome_15 (by decide) ?_
    obtain ⟨w_5, σ_5, hc_5, hm0⟩ := rc_bd_inv hm
    clear hm
    refine rc_ci hS (va_runV (As := [.int (1 : Int32), .int (0 : Int32)]) (rest := []) ⟨hx, hb, hml, hown, hts⟩ (k_X5_because l hT (rf a0 1) (1 : Int32) (0 : Int32) (rc_t_8_1 hT h0) H.size _ _ _ hc_5) (cwV 2 hts (rc_gV tw_3_180 tw_3_181 tw_3_182 tw_1_7 tw_3_183) rfl rfl rfl (by decide +kernel) ⟨Nat.le_of_ble_eq_true rfl, Nat.le_of_ble_eq_true rfl⟩) (rc_preV hT hW hK hE hS (rc_t_8_1 hT h0) (by decide) rfl (q := (RX5, TX5, 3)) rfl [.int (1 : Int32), .int (0 : Int32)]) rfl rfl hl.1 rfl (lv_room (Nat.le_of_ble_eq_true rfl)) dX7_letCome_16 ⟨Nat.le_of_ble_eq_true rfl, Nat.le_of_ble_eq_true rfl⟩) (fun H locs hW hS => ?_)
    have hm := hm0
    clear hm0 hc_5
    exact rc_eiret hx hb hr hlocks hW hS (Nat.le_of_ble_eq_true rfl) (Nat.le_of_ble_eq_true rfl) hm dX7_letCome_19
set_option maxHeartbeats 4000000 in
set_option maxRecDepth 100000 in
theorem k_X7_clearRoof (l : Launch) {Y : rc_Y} {sh : Nat → Nat} {rf : rc_F} (hT : rc_T Y sh rf) (a0 : Nat) (u1 : Int32) (h0 : sh a0 = 8) (sz : Nat) (σ σ' : rc_S) (r : Int32) (hm : f_X7_clearRoof rf a0 u1 σ = some (r, σ')) : Met l yX7_clearRoof (Cond.code yX7_clearRoof cX7_clearRoof 3 (some .int) :: rc_big) ({ frames := 1, cells := 0, slots := 0, locals := 22 } : Room) (rc_P Y sh rf σ sz [.ref a0, .int u1]) (va_Qi (fun (r' : Int32) (_ : Unit) => r' = r) (fun _ t => rc_W Y sh rf σ' t.heap) (rc_A sh sz)) 0 0 (rc_A sh sz) := by
  refine Met.ofW (cc := cX7_clearRoof) (maxL := 3) (ret := (some .int)) (by decide +kernel) rfl ?_
  intro p e s m args below meth c s₁ B hml hv
  obtain ⟨rfl, hsz, hW, hK, hE⟩ := hv
  have hx := B.exec
  have hb := B.bytes
  have hr := B.returns
  have hts : ∀ w ∈ rc_big, w.before _ s = true := fun w h => atoms_spec (ws := Cond.code yX7_clearRoof cX7_clearRoof 3 (some .int) :: rc_big) B.pre w (List.mem_cons_of_mem _ h)
  have hown : s.vm.findClass RX7 = some m.cls := findClass_of_methodNamed B.named
  have hlocks := B.notSynchronized
  clear B
  subst hsz
  have hS : va_S (rc_A sh s.heap.size) s.heap s.heap [] := va_S.rf
  have hl := lv_entry ([.ref a0, .int u1]) (n := 3) (Nat.le_of_ble_eq_true rfl)
  rw [lg_entry_eq]
  generalize (lg_sl ([.ref a0, .int u1]) ++ List.replicate (3 - (lg_sl ([.ref a0, .int u1])).length) Slot.unset).toArray = ls at hl ⊢
  have hl : lv_has ls 3 [(0, .ref a0), (1, .int u1)] := hl
  unfold f_X7_clearRoof at hm
  refine lv_iload_n hx hb dX7_clearRoof_0 rfl (lv_at hl 1 rfl) ?_
  refine lv_iconst (v := 0) hx hb dX7_clearRoof_1 (by decide) ?_
  refine lv_iconst (v := 3) hx hb dX7_clearRoof_2 (by decide) ?_
  obtain ⟨w_1, σ_1, hc_1, hm0⟩ := rc_bd_inv hm
  clear hm
  refine rc_ci hS (va_runSN (As := [.int u1, .int (0 : Int32), .int (3 : Int32)]) (rest := []) ⟨hx, hb, hml, hown, hts⟩ (k_X8_isOutside l hT u1 (0 : Int32) (3 : Int32)  s.heap.size _ _ _ hc_1) ⟨va_cnB 3 hts (rc_gI tw_3_78) rfl rfl rfl (rc_E_nw hE _ nw_3_179) (hts _ tw_1_1) (by decide +kernel) ⟨Nat.le_of_ble_eq_true rfl, Nat.le_of_ble_eq_true rfl⟩, hts _ tw_3_77, trivial⟩ (rc_preS hT hW hK hE hS [.int u1, .int (0 : Int32), .int (3 : Int32)]) rfl rfl hl.1 rfl (lv_room (Nat.le_of_ble_eq_true rfl)) dX7_clearRoof_3 ⟨Nat.le_of_ble_eq_true rfl, Nat.le_of_ble_eq_true rfl⟩) (fun H locs hW hS => ?_)
  have hm := hm0
  clear hm0 hc_1
  refine lv_if_eq (tgt := 19) hx hb dX7_clearRoof_6 (by decide) (fun c_9 => ?_) (fun c_9 => ?_)
  · replace hm := rc_t hm c_9
    refine lv_aload_n hx hb dX7_clearRoof_19 rfl (lv_at hl 0 rfl) ?_
    refine rg_8_0 hx hb hts hown hK hW h0 tw_1_226 dX7_clearRoof_20 ?_
    refine rg_2_0 hx hb hts hown hK hW (rc_t_8_0 hT h0) tw_1_141 dX7_clearRoof_23 ?_
    refine lv_iload_n hx hb dX7_clearRoof_26 rfl (lv_at hl 1 rfl) ?_
    have hi_2 := (rc_ix hm).1
    replace hm := (rc_ix hm).2
    refine rc_ialdj (j := u1.toNatClampNeg) hx hb hK hW (rc_t_2_0 hT (rc_t_8_0 hT h0)) (by decide) rfl hi_2 rfl dX7_clearRoof_27 ?_
    refine lv_topi (fun v2_3 ev => ?_)
    replace hm := rc_lt_at hm ev
    clear ev
    refine lv_istore_n (lv' := [(2, .int v2_3), (0, .ref a0), (1, .int u1)]) hx hb dX7_clearRoof_28 rfl hl (by decide) rfl (fun ls hl => ?_)
    refine lv_iload_n hx hb dX7_clearRoof_29 rfl (lv_at hl 0 rfl) ?_
    refine lv_if_ne (tgt := 44) hx hb dX7_clearRoof_30 (by decide) (fun c_7 => ?_) (fun c_7 => ?_)
    · replace hm := rc_f hm c_7
      refine lv_aload_n hx hb dX7_clearRoof_44 rfl (lv_at hl 1 rfl) ?_
      refine rg_8_0 hx hb hts hown hK hW h0 tw_1_226 dX7_clearRoof_45 ?_
      refine rg_2_0 hx hb hts hown hK hW (rc_t_8_0 hT h0) tw_1_141 dX7_clearRoof_48 ?_
      refine lv_iload_n hx hb dX7_clearRoof_51 rfl (lv_at hl 2 rfl) ?_
      refine lv_iconst (v := 0) hx hb dX7_clearRoof_52 (by decide) ?_
      have hi_4 := (rc_ix hm).1
      replace hm := (rc_ix hm).2
      refine rc_iastj (j := u1.toNatClampNeg) hx hb hK hW hS (rc_t_2_0 hT (rc_t_8_0 hT h0)) (by decide) (fun _ => rfl) hi_4 rfl dX7_clearRoof_53 (fun σ_5 H locs eσ hW hS => ?_)
      replace hm := rc_lt_at hm eσ
      clear eσ
      refine lv_iload_n hx hb dX7_clearRoof_54 rfl (lv_at hl 0 rfl) ?_
      exact rc_eiret hx hb hr hlocks hW hS (Nat.le_of_ble_eq_true rfl) (Nat.le_of_ble_eq_true rfl) hm dX7_clearRoof_55
    · replace hm := rc_t hm c_7
      refine lv_aload_n hx hb dX7_clearRoof_33 rfl (lv_at hl 1 rfl) ?_
      refine rg_8_1 hx hb hts hown hK hW h0 tw_1_228 dX7_clearRoof_34 ?_
      refine lv_bipush (v := 12) hx hb dX7_clearRoof_37 (by decide) ?_
      refine lv_iload_n hx hb dX7_clearRoof_39 rfl (lv_at hl 2 rfl) ?_
      obtain ⟨w_6, σ_6, hc_6, hm0⟩ := rc_bd_inv hm
      clear hm
      refine rc_ci hS (va_runV (As := [.int (12 : Int32), .int u1]) (rest := []) ⟨hx, hb, hml, hown, hts⟩ (k_X5_because l hT (rf a0 1) (12 : Int32) u1 (rc_t_8_1 hT h0) H.size _ _ _ hc_6) (cwV 2 hts (rc_gV tw_3_180 tw_3_181 tw_3_182 tw_1_7 tw_3_183) rfl rfl rfl (by decide +kernel) ⟨Nat.le_of_ble_eq_true rfl, Nat.le_of_ble_eq_true rfl⟩) (rc_preV hT hW hK hE hS (rc_t_8_1 hT h0) (by decide) rfl (q := (RX5, TX5, 3)) rfl [.int (12 : Int32), .int u1]) rfl rfl hl.1 rfl (lv_room (Nat.le_of_ble_eq_true rfl)) dX7_clearRoof_40 ⟨Nat.le_of_ble_eq_true rfl, Nat.le_of_ble_eq_true rfl⟩) (fun H locs hW hS => ?_)
      have hm := hm0
      clear hm0 hc_6
      exact rc_eiret hx hb hr hlocks hW hS (Nat.le_of_ble_eq_true rfl) (Nat.le_of_ble_eq_true rfl) hm dX7_clearRoof_43
  · replace hm := rc_f hm c_9
    refine lv_aload_n hx hb dX7_clearRoof_9 rfl (lv_at hl 0 rfl) ?_
    refine rg_8_1 hx hb hts hown hK hW h0 tw_1_228 dX7_clearRoof_10 ?_
    refine lv_iconst (v := 1) hx hb dX7_clearRoof_13 (by decide) ?_
    refine lv_iconst (v := 0) hx hb dX7_clearRoof_14 (by decide) ?_
    obtain ⟨w_8, σ_8, hc_8, hm0⟩ := rc_bd_inv hm
    clear hm
    refine rc_ci hS (va_runV (As := [.int (1 : Int32), .int (0 : Int32)]) (rest := []) ⟨hx, hb, hml, hown, hts⟩ (k_X5_because l hT (rf a0 1) (1 : Int32) (0 : Int32) (rc_t_8_1 hT h0) H.size _ _ _ hc_8) (cwV 2 hts (rc_gV tw_3_180 tw_3_181 tw_3_182 tw_1_7 tw_3_183) rfl rfl rfl (by decide +kernel) ⟨Nat.le_of_ble_eq_true rfl, Nat.le_of_ble_eq_true rfl⟩) (rc_preV hT hW hK hE hS (rc_t_8_1 hT h0) (by decide) rfl (q := (RX5, TX5, 3)) rfl [.int (1 : Int32), .int (0 : Int32)]) rfl rfl hl.1 rfl (lv_room (Nat.le_of_ble_eq_true rfl)) dX7_clearRoof_15 ⟨Nat.le_of_ble_eq_true rfl, Nat.le_of_ble_eq_true rfl⟩) (fun H locs hW hS => ?_)
    have hm := hm0
    clear hm0 hc_8
    exact rc_eiret hx hb hr hlocks hW hS (Nat.le_of_ble_eq_true rfl) (Nat.le_of_ble_eq_true rfl) hm dX7_clearRoof_18
set_option maxHeartbeats 4000000 in
set_option maxRecDepth 100000 in
theorem k_X8_storm (l : Launch) (hl9 : l.stackTraces = false) {Y : rc_Y} {sh : Nat → Nat} {rf : rc_F} (hT : rc_T Y sh rf) (a0 : Nat) (u1 : Int32) (u2 : Int32) (h0 : sh a0 = 9) (sz : Nat) (σ σ' : rc_S) (k : Nat) (r : Int32) (hm : f_X8_storm rf a0 u1 u2 σ = some (k, r, σ')) : vx_Met l yX8_storm (Cond.code yX8_storm cX8_storm 3 (some .int) :: rc_big) ({ frames := 7, cells := 1, slots := 6, locals := 102 } : Room) (rc_P Y sh rf σ sz [.ref a0, .int u1, .int u2]) (va_Qi (fun (r' : Int32) (_ : Unit) => k = 0 ∧ r' = r) (fun _ t => rc_W Y sh rf σ' t.heap) (rc_A sh sz)) (rc_XC Y sh rf σ' k sz) 1 6 (rc_A sh sz) := by
  refine vx_ofW (cc := cX8_storm) (maxL := 3) (ret := (some .int)) (by decide +kernel) rfl ?_
  intro p e s m args below meth c s₁ B hml hout hv
  obtain ⟨rfl, hsz, hW, hK, hE⟩ := hv
  have hx := B.exec
  have hb := B.bytes
  have hr := B.returns
  have hts : ∀ w ∈ rc_big, w.before _ s = true := fun w h => atoms_spec (ws := Cond.code yX8_storm cX8_storm 3 (some .int) :: rc_big) B.pre w (List.mem_cons_of_mem _ h)
  have hown : s.vm.findClass RX8 = some m.cls := findClass_of_methodNamed B.named
  have hlocks := B.notSynchronized
  clear B
  subst hsz
  have hS : va_S (rc_A sh s.heap.size) s.heap s.heap [] := va_S.rf
  have hl := lv_entry ([.ref a0, .int u1, .int u2]) (n := 3) (Nat.le_of_ble_eq_true rfl)
  rw [lg_entry_eq]
  generalize (lg_sl ([.ref a0, .int u1, .int u2]) ++ List.replicate (3 - (lg_sl ([.ref a0, .int u1, .int u2])).length) Slot.unset).toArray = ls at hl ⊢
  have hl : lv_has ls 3 [(0, .ref a0), (1, .int u1), (2, .int u2)] := hl
  unfold f_X8_storm at hm
  refine lv_aload_n hx hb dX8_storm_0 rfl (lv_at hl 0 rfl) ?_
  refine rg_9_5 hx hb hts hown hK hW h0 tw_2_87 dX8_storm_1 ?_
  refine lv_aload_n hx hb dX8_storm_4 rfl (lv_at hl 0 rfl) ?_
  refine rg_9_1 hx hb hts hown hK hW h0 tw_2_83 dX8_storm_5 ?_
  obtain ⟨w_1, σ_1, hc_1, hm0⟩ := rc_bd_inv hm
  clear hm
  refine rc_cv hS (va_runV (As := [.ref (rf a0 1)]) (rest := []) ⟨hx, hb, hml, hown, hts⟩ (k_X2_setAside l hT (rf a0 5) (rf a0 1) (rc_t_9_5 hT h0) (rc_t_9_1 hT h0) s.heap.size _ _ _ hc_1) (cwV 1 hts (rc_gV tw_3_140 tw_3_141 tw_3_142 tw_1_8 tw_3_143) rfl rfl rfl (by decide +kernel) ⟨Nat.le_of_ble_eq_true rfl, Nat.le_of_ble_eq_true rfl⟩) (rc_preV hT hW hK hE hS (rc_t_9_5 hT h0) (by decide) rfl (q := (RX2, TX2, 3)) rfl [.ref (rf a0 1)]) rfl rfl hl.1 rfl (lv_room (Nat.le_of_ble_eq_true rfl)) dX8_storm_8 ⟨Nat.le_of_ble_eq_true rfl, Nat.le_of_ble_eq_true rfl⟩) (fun H locs hW hS => ?_)
  have hm := hm0
  clear hm0 hc_1
  refine lv_aload_n hx hb dX8_storm_11 rfl (lv_at hl 0 rfl) ?_
  refine lv_aload_n hx hb dX8_storm_12 rfl (lv_at hl 0 rfl) ?_
  refine rg_9_0 hx hb hts hown hK hW h0 tw_2_82 dX8_storm_13 ?_
  refine lv_iload_n hx hb dX8_storm_16 rfl (lv_at hl 1 rfl) ?_
  refine lv_iload_n hx hb dX8_storm_17 rfl (lv_at hl 2 rfl) ?_
  obtain ⟨w_2, σ_2, hc_2, hm0⟩ := rc_bd_inv hm
  clear hm
  refine rc_ci hS (va_runV (As := [.int u1, .int u2]) (rest := [.ref a0]) ⟨hx, hb, hml, hown, hts⟩ (k_X7_letStormBy l hT (rf a0 0) u1 u2 (rc_t_9_0 hT h0) H.size _ _ _ hc_2) (cwV 2 hts (rc_gV tw_3_222 tw_3_223 tw_3_224 tw_1_2 tw_3_225) rfl rfl rfl (by decide +kernel) ⟨Nat.le_of_ble_eq_true rfl, Nat.le_of_ble_eq_true rfl⟩) (rc_preV hT hW hK hE hS (rc_t_9_0 hT h0) (by decide) rfl (q := (RX7, TX7, 2)) rfl [.int u1, .int u2]) rfl rfl hl.1 rfl (lv_room (Nat.le_of_ble_eq_true rfl)) dX8_storm_18 ⟨Nat.le_of_ble_eq_true rfl, Nat.le_of_ble_eq_true rfl⟩) (fun H locs hW hS => ?_)
  have hm := hm0
  clear hm0 hc_2
  obtain ⟨k_3, w_3, σ_3, hc_3, hm0, hk_3⟩ := rc_bx_inv hm
  clear hm
  refine rc_xci hout hlocks hS hk_3 (Nat.le_of_ble_eq_true rfl) (Nat.le_of_ble_eq_true rfl) (vx_runV (As := [.int w_2]) (rest := []) ⟨hx, hb, hml, hown, hts⟩ (k_X8_kept l hl9 hT a0 w_2 h0 H.size _ _ _ _ hc_3) (cwV 1 hts (rc_gV tw_3_192 tw_3_194 tw_p_6 tw_1_1 tw_3_195) rfl rfl rfl (by decide +kernel) ⟨Nat.le_of_ble_eq_true rfl, Nat.le_of_ble_eq_true rfl⟩) (rc_preV hT hW hK hE hS h0 (by decide) rfl (q := (RX8, TX8, 9)) rfl [.int w_2]) rfl rfl hl.1 rfl (lv_room (Nat.le_of_ble_eq_true rfl)) dX8_storm_21 ⟨Nat.le_of_ble_eq_true rfl, Nat.le_of_ble_eq_true rfl⟩) (fun H locs h0_3 hW hS => ?_)
  have hm := hm0 h0_3
  clear hm0 hc_3 hk_3
  exact rc_xiret hx hb hr hlocks hW hS (Nat.le_of_ble_eq_true rfl) (Nat.le_of_ble_eq_true rfl) hm dX8_storm_24
set_option maxHeartbeats 4000000 in
set_option maxRecDepth 100000 in
theorem k_X8_barrel (l : Launch) (hl9 : l.stackTraces = false) {Y : rc_Y} {sh : Nat → Nat} {rf : rc_F} (hT : rc_T Y sh rf) (a0 : Nat) (u1 : Int32) (h0 : sh a0 = 9) (sz : Nat) (σ σ' : rc_S) (k : Nat) (r : Int32) (hm : f_X8_barrel rf a0 u1 σ = some (k, r, σ')) : vx_Met l yX8_barrel (Cond.code yX8_barrel cX8_barrel 2 (some .int) :: rc_big) ({ frames := 7, cells := 1, slots := 6, locals := 102 } : Room) (rc_P Y sh rf σ sz [.ref a0, .int u1]) (va_Qi (fun (r' : Int32) (_ : Unit) => k = 0 ∧ r' = r) (fun _ t => rc_W Y sh rf σ' t.heap) (rc_A sh sz)) (rc_XC Y sh rf σ' k sz) 1 6 (rc_A sh sz) := by
  refine vx_ofW (cc := cX8_barrel) (maxL := 2) (ret := (some .int)) (by decide +kernel) rfl ?_
  intro p e s m args below meth c s₁ B hml hout hv
  obtain ⟨rfl, hsz, hW, hK, hE⟩ := hv
  have hx := B.exec
  have hb := B.bytes
  have hr := B.returns
  have hts : ∀ w ∈ rc_big, w.before _ s = true := fun w h => atoms_spec (ws := Cond.code yX8_barrel cX8_barrel 2 (some .int) :: rc_big) B.pre w (List.mem_cons_of_mem _ h)
  have hown : s.vm.findClass RX8 = some m.cls := findClass_of_methodNamed B.named
  have hlocks := B.notSynchronized
  clear B
  subst hsz
  have hS : va_S (rc_A sh s.heap.size) s.heap s.heap [] := va_S.rf
  have hl := lv_entry ([.ref a0, .int u1]) (n := 2) (Nat.le_of_ble_eq_true rfl)
  rw [lg_entry_eq]
  generalize (lg_sl ([.ref a0, .int u1]) ++ List.replicate (2 - (lg_sl ([.ref a0, .int u1])).length) Slot.unset).toArray = ls at hl ⊢
  have hl : lv_has ls 2 [(0, .ref a0), (1, .int u1)] := hl
  unfold f_X8_barrel at hm
  refine lv_aload_n hx hb dX8_barrel_0 rfl (lv_at hl 0 rfl) ?_
  refine rg_9_5 hx hb hts hown hK hW h0 tw_2_87 dX8_barrel_1 ?_
  refine lv_aload_n hx hb dX8_barrel_4 rfl (lv_at hl 0 rfl) ?_
  refine rg_9_1 hx hb hts hown hK hW h0 tw_2_83 dX8_barrel_5 ?_
  obtain ⟨w_1, σ_1, hc_1, hm0⟩ := rc_bd_inv hm
  clear hm
  refine rc_cv hS (va_runV (As := [.ref (rf a0 1)]) (rest := []) ⟨hx, hb, hml, hown, hts⟩ (k_X2_setAside l hT (rf a0 5) (rf a0 1) (rc_t_9_5 hT h0) (rc_t_9_1 hT h0) s.heap.size _ _ _ hc_1) (cwV 1 hts (rc_gV tw_3_140 tw_3_141 tw_3_142 tw_1_8 tw_3_143) rfl rfl rfl (by decide +kernel) ⟨Nat.le_of_ble_eq_true rfl, Nat.le_of_ble_eq_true rfl⟩) (rc_preV hT hW hK hE hS (rc_t_9_5 hT h0) (by decide) rfl (q := (RX2, TX2, 3)) rfl [.ref (rf a0 1)]) rfl rfl hl.1 rfl (lv_room (Nat.le_of_ble_eq_true rfl)) dX8_barrel_8 ⟨Nat.le_of_ble_eq_true rfl, Nat.le_of_ble_eq_true rfl⟩) (fun H locs hW hS => ?_)
  have hm := hm0
  clear hm0 hc_1
  refine lv_aload_n hx hb dX8_barrel_11 rfl (lv_at hl 0 rfl) ?_
  refine lv_aload_n hx hb dX8_barrel_12 rfl (lv_at hl 0 rfl) ?_
  refine rg_9_0 hx hb hts hown hK hW h0 tw_2_82 dX8_barrel_13 ?_
  refine lv_iload_n hx hb dX8_barrel_16 rfl (lv_at hl 1 rfl) ?_
  obtain ⟨w_2, σ_2, hc_2, hm0⟩ := rc_bd_inv hm
  clear hm
  refine rc_ci hS (va_runV (As := [.int u1]) (rest := [.ref a0]) ⟨hx, hb, hml, hown, hts⟩ (k_X7_placeBarrel l hT (rf a0 0) u1 (rc_t_9_0 hT h0) H.size _ _ _ hc_2) (cwV 1 hts (rc_gV tw_3_175 tw_3_176 tw_3_177 tw_1_2 tw_3_178) rfl rfl rfl (by decide +kernel) ⟨Nat.le_of_ble_eq_true rfl, Nat.le_of_ble_eq_true rfl⟩) (rc_preV hT hW hK hE hS (rc_t_9_0 hT h0) (by decide) rfl (q := (RX7, TX7, 2)) rfl [.int u1]) rfl rfl hl.1 rfl (lv_room (Nat.le_of_ble_eq_true rfl)) dX8_barrel_17 ⟨Nat.le_of_ble_eq_true rfl, Nat.le_of_ble_eq_true rfl⟩) (fun H locs hW hS => ?_)
  have hm := hm0
  clear hm0 hc_2
  obtain ⟨k_3, w_3, σ_3, hc_3, hm0, hk_3⟩ := rc_bx_inv hm
  clear hm
  refine rc_xci hout hlocks hS hk_3 (Nat.le_of_ble_eq_true rfl) (Nat.le_of_ble_eq_true rfl) (vx_runV (As := [.int w_2]) (rest := []) ⟨hx, hb, hml, hown, hts⟩ (k_X8_kept l hl9 hT a0 w_2 h0 H.size _ _ _ _ hc_3) (cwV 1 hts (rc_gV tw_3_192 tw_3_194 tw_p_6 tw_1_1 tw_3_195) rfl rfl rfl (by decide +kernel) ⟨Nat.le_of_ble_eq_true rfl, Nat.le_of_ble_eq_true rfl⟩) (rc_preV hT hW hK hE hS h0 (by decide) rfl (q := (RX8, TX8, 9)) rfl [.int w_2]) rfl rfl hl.1 rfl (lv_room (Nat.le_of_ble_eq_true rfl)) dX8_barrel_20 ⟨Nat.le_of_ble_eq_true rfl, Nat.le_of_ble_eq_true rfl⟩) (fun H locs h0_3 hW hS => ?_)
  have hm := hm0 h0_3
  clear hm0 hc_3 hk_3
  exact rc_xiret hx hb hr hlocks hW hS (Nat.le_of_ble_eq_true rfl) (Nat.le_of_ble_eq_true rfl) hm dX8_barrel_23
set_option maxHeartbeats 4000000 in
set_option maxRecDepth 100000 in
theorem k_X8_takeAway (l : Launch) (hl9 : l.stackTraces = false) {Y : rc_Y} {sh : Nat → Nat} {rf : rc_F} (hT : rc_T Y sh rf) (a0 : Nat) (u1 : Int32) (h0 : sh a0 = 9) (sz : Nat) (σ σ' : rc_S) (k : Nat) (r : Int32) (hm : f_X8_takeAway rf a0 u1 σ = some (k, r, σ')) : vx_Met l yX8_takeAway (Cond.code yX8_takeAway cX8_takeAway 2 (some .int) :: rc_big) ({ frames := 7, cells := 1, slots := 6, locals := 102 } : Room) (rc_P Y sh rf σ sz [.ref a0, .int u1]) (va_Qi (fun (r' : Int32) (_ : Unit) => k = 0 ∧ r' = r) (fun _ t => rc_W Y sh rf σ' t.heap) (rc_A sh sz)) (rc_XC Y sh rf σ' k sz) 1 6 (rc_A sh sz) := by
  refine vx_ofW (cc := cX8_takeAway) (maxL := 2) (ret := (some .int)) (by decide +kernel) rfl ?_
  intro p e s m args below meth c s₁ B hml hout hv
  obtain ⟨rfl, hsz, hW, hK, hE⟩ := hv
  have hx := B.exec
  have hb := B.bytes
  have hr := B.returns
  have hts : ∀ w ∈ rc_big, w.before _ s = true := fun w h => atoms_spec (ws := Cond.code yX8_takeAway cX8_takeAway 2 (some .int) :: rc_big) B.pre w (List.mem_cons_of_mem _ h)
  have hown : s.vm.findClass RX8 = some m.cls := findClass_of_methodNamed B.named
  have hlocks := B.notSynchronized
  clear B
  subst hsz
  have hS : va_S (rc_A sh s.heap.size) s.heap s.heap [] := va_S.rf
  have hl := lv_entry ([.ref a0, .int u1]) (n := 2) (Nat.le_of_ble_eq_true rfl)
  rw [lg_entry_eq]
  generalize (lg_sl ([.ref a0, .int u1]) ++ List.replicate (2 - (lg_sl ([.ref a0, .int u1])).length) Slot.unset).toArray = ls at hl ⊢
  have hl : lv_has ls 2 [(0, .ref a0), (1, .int u1)] := hl
  unfold f_X8_takeAway at hm
  refine lv_aload_n hx hb dX8_takeAway_0 rfl (lv_at hl 0 rfl) ?_
  refine rg_9_5 hx hb hts hown hK hW h0 tw_2_87 dX8_takeAway_1 ?_
  refine lv_aload_n hx hb dX8_takeAway_4 rfl (lv_at hl 0 rfl) ?_
  refine rg_9_1 hx hb hts hown hK hW h0 tw_2_83 dX8_takeAway_5 ?_
  obtain ⟨w_1, σ_1, hc_1, hm0⟩ := rc_bd_inv hm
  clear hm
  refine rc_cv hS (va_runV (As := [.ref (rf a0 1)]) (rest := []) ⟨hx, hb, hml, hown, hts⟩ (k_X2_setAside l hT (rf a0 5) (rf a0 1) (rc_t_9_5 hT h0) (rc_t_9_1 hT h0) s.heap.size _ _ _ hc_1) (cwV 1 hts (rc_gV tw_3_140 tw_3_141 tw_3_142 tw_1_8 tw_3_143) rfl rfl rfl (by decide +kernel) ⟨Nat.le_of_ble_eq_true rfl, Nat.le_of_ble_eq_true rfl⟩) (rc_preV hT hW hK hE hS (rc_t_9_5 hT h0) (by decide) rfl (q := (RX2, TX2, 3)) rfl [.ref (rf a0 1)]) rfl rfl hl.1 rfl (lv_room (Nat.le_of_ble_eq_true rfl)) dX8_takeAway_8 ⟨Nat.le_of_ble_eq_true rfl, Nat.le_of_ble_eq_true rfl⟩) (fun H locs hW hS => ?_)
  have hm := hm0
  clear hm0 hc_1
  refine lv_aload_n hx hb dX8_takeAway_11 rfl (lv_at hl 0 rfl) ?_
  refine lv_aload_n hx hb dX8_takeAway_12 rfl (lv_at hl 0 rfl) ?_
  refine rg_9_0 hx hb hts hown hK hW h0 tw_2_82 dX8_takeAway_13 ?_
  refine lv_iload_n hx hb dX8_takeAway_16 rfl (lv_at hl 1 rfl) ?_
  obtain ⟨w_2, σ_2, hc_2, hm0⟩ := rc_bd_inv hm
  clear hm
  refine rc_ci hS (va_runV (As := [.int u1]) (rest := [.ref a0]) ⟨hx, hb, hml, hown, hts⟩ (k_X7_removeBarrel l hT (rf a0 0) u1 (rc_t_9_0 hT h0) H.size _ _ _ hc_2) (cwV 1 hts (rc_gV tw_4_66 tw_4_67 tw_4_68 tw_1_2 tw_4_69) rfl rfl rfl (by decide +kernel) ⟨Nat.le_of_ble_eq_true rfl, Nat.le_of_ble_eq_true rfl⟩) (rc_preV hT hW hK hE hS (rc_t_9_0 hT h0) (by decide) rfl (q := (RX7, TX7, 2)) rfl [.int u1]) rfl rfl hl.1 rfl (lv_room (Nat.le_of_ble_eq_true rfl)) dX8_takeAway_17 ⟨Nat.le_of_ble_eq_true rfl, Nat.le_of_ble_eq_true rfl⟩) (fun H locs hW hS => ?_)
  have hm := hm0
  clear hm0 hc_2
  obtain ⟨k_3, w_3, σ_3, hc_3, hm0, hk_3⟩ := rc_bx_inv hm
  clear hm
  refine rc_xci hout hlocks hS hk_3 (Nat.le_of_ble_eq_true rfl) (Nat.le_of_ble_eq_true rfl) (vx_runV (As := [.int w_2]) (rest := []) ⟨hx, hb, hml, hown, hts⟩ (k_X8_kept l hl9 hT a0 w_2 h0 H.size _ _ _ _ hc_3) (cwV 1 hts (rc_gV tw_3_192 tw_3_194 tw_p_6 tw_1_1 tw_3_195) rfl rfl rfl (by decide +kernel) ⟨Nat.le_of_ble_eq_true rfl, Nat.le_of_ble_eq_true rfl⟩) (rc_preV hT hW hK hE hS h0 (by decide) rfl (q := (RX8, TX8, 9)) rfl [.int w_2]) rfl rfl hl.1 rfl (lv_room (Nat.le_of_ble_eq_true rfl)) dX8_takeAway_20 ⟨Nat.le_of_ble_eq_true rfl, Nat.le_of_ble_eq_true rfl⟩) (fun H locs h0_3 hW hS => ?_)
  have hm := hm0 h0_3
  clear hm0 hc_3 hk_3
  exact rc_xiret hx hb hr hlocks hW hS (Nat.le_of_ble_eq_true rfl) (Nat.le_of_ble_eq_true rfl) hm dX8_takeAway_23
set_option maxHeartbeats 4000000 in
set_option maxRecDepth 100000 in
theorem k_X8_hail (l : Launch) (hl9 : l.stackTraces = false) {Y : rc_Y} {sh : Nat → Nat} {rf : rc_F} (hT : rc_T Y sh rf) (a0 : Nat) (u1 : Int32) (u2 : Int32) (h0 : sh a0 = 9) (sz : Nat) (σ σ' : rc_S) (k : Nat) (r : Int32) (hm : f_X8_hail rf a0 u1 u2 σ = some (k, r, σ')) : vx_Met l yX8_hail (Cond.code yX8_hail cX8_hail 3 (some .int) :: rc_big) ({ frames := 7, cells := 1, slots := 6, locals := 102 } : Room) (rc_P Y sh rf σ sz [.ref a0, .int u1, .int u2]) (va_Qi (fun (r' : Int32) (_ : Unit) => k = 0 ∧ r' = r) (fun _ t => rc_W Y sh rf σ' t.heap) (rc_A sh sz)) (rc_XC Y sh rf σ' k sz) 1 6 (rc_A sh sz) := by
  refine vx_ofW (cc := cX8_hail) (maxL := 3) (ret := (some .int)) (by decide +kernel) rfl ?_
  intro p e s m args below meth c s₁ B hml hout hv
  obtain ⟨rfl, hsz, hW, hK, hE⟩ := hv
  have hx := B.exec
  have hb := B.bytes
  have hr := B.returns
  have hts : ∀ w ∈ rc_big, w.before _ s = true := fun w h => atoms_spec (ws := Cond.code yX8_hail cX8_hail 3 (some .int) :: rc_big) B.pre w (List.mem_cons_of_mem _ h)
  have hown : s.vm.findClass RX8 = some m.cls := findClass_of_methodNamed B.named
  have hlocks := B.notSynchronized
  clear B
  subst hsz
  have hS : va_S (rc_A sh s.heap.size) s.heap s.heap [] := va_S.rf
  have hl := lv_entry ([.ref a0, .int u1, .int u2]) (n := 3) (Nat.le_of_ble_eq_true rfl)
  rw [lg_entry_eq]
  generalize (lg_sl ([.ref a0, .int u1, .int u2]) ++ List.replicate (3 - (lg_sl ([.ref a0, .int u1, .int u2])).length) Slot.unset).toArray = ls at hl ⊢
  have hl : lv_has ls 3 [(0, .ref a0), (1, .int u1), (2, .int u2)] := hl
  unfold f_X8_hail at hm
  refine lv_aload_n hx hb dX8_hail_0 rfl (lv_at hl 0 rfl) ?_
  refine rg_9_5 hx hb hts hown hK hW h0 tw_2_87 dX8_hail_1 ?_
  refine lv_aload_n hx hb dX8_hail_4 rfl (lv_at hl 0 rfl) ?_
  refine rg_9_1 hx hb hts hown hK hW h0 tw_2_83 dX8_hail_5 ?_
  obtain ⟨w_1, σ_1, hc_1, hm0⟩ := rc_bd_inv hm
  clear hm
  refine rc_cv hS (va_runV (As := [.ref (rf a0 1)]) (rest := []) ⟨hx, hb, hml, hown, hts⟩ (k_X2_setAside l hT (rf a0 5) (rf a0 1) (rc_t_9_5 hT h0) (rc_t_9_1 hT h0) s.heap.size _ _ _ hc_1) (cwV 1 hts (rc_gV tw_3_140 tw_3_141 tw_3_142 tw_1_8 tw_3_143) rfl rfl rfl (by decide +kernel) ⟨Nat.le_of_ble_eq_true rfl, Nat.le_of_ble_eq_true rfl⟩) (rc_preV hT hW hK hE hS (rc_t_9_5 hT h0) (by decide) rfl (q := (RX2, TX2, 3)) rfl [.ref (rf a0 1)]) rfl rfl hl.1 rfl (lv_room (Nat.le_of_ble_eq_true rfl)) dX8_hail_8 ⟨Nat.le_of_ble_eq_true rfl, Nat.le_of_ble_eq_true rfl⟩) (fun H locs hW hS => ?_)
  have hm := hm0
  clear hm0 hc_1
  refine lv_aload_n hx hb dX8_hail_11 rfl (lv_at hl 0 rfl) ?_
  refine lv_aload_n hx hb dX8_hail_12 rfl (lv_at hl 0 rfl) ?_
  refine rg_9_0 hx hb hts hown hK hW h0 tw_2_82 dX8_hail_13 ?_
  refine lv_iload_n hx hb dX8_hail_16 rfl (lv_at hl 1 rfl) ?_
  refine lv_iload_n hx hb dX8_hail_17 rfl (lv_at hl 2 rfl) ?_
  obtain ⟨w_2, σ_2, hc_2, hm0⟩ := rc_bd_inv hm
  clear hm
  refine rc_ci hS (va_runV (As := [.int u1, .int u2]) (rest := [.ref a0]) ⟨hx, hb, hml, hown, hts⟩ (k_X7_adulterate l hT (rf a0 0) u1 u2 (rc_t_9_0 hT h0) H.size _ _ _ hc_2) (cwV 2 hts (rc_gV tw_4_82 tw_4_83 tw_4_84 tw_1_2 tw_4_85) rfl rfl rfl (by decide +kernel) ⟨Nat.le_of_ble_eq_true rfl, Nat.le_of_ble_eq_true rfl⟩) (rc_preV hT hW hK hE hS (rc_t_9_0 hT h0) (by decide) rfl (q := (RX7, TX7, 2)) rfl [.int u1, .int u2]) rfl rfl hl.1 rfl (lv_room (Nat.le_of_ble_eq_true rfl)) dX8_hail_18 ⟨Nat.le_of_ble_eq_true rfl, Nat.le_of_ble_eq_true rfl⟩) (fun H locs hW hS => ?_)
  have hm := hm0
  clear hm0 hc_2
  obtain ⟨k_3, w_3, σ_3, hc_3, hm0, hk_3⟩ := rc_bx_inv hm
  clear hm
  refine rc_xci hout hlocks hS hk_3 (Nat.le_of_ble_eq_true rfl) (Nat.le_of_ble_eq_true rfl) (vx_runV (As := [.int w_2]) (rest := []) ⟨hx, hb, hml, hown, hts⟩ (k_X8_kept l hl9 hT a0 w_2 h0 H.size _ _ _ _ hc_3) (cwV 1 hts (rc_gV tw_3_192 tw_3_194 tw_p_6 tw_1_1 tw_3_195) rfl rfl rfl (by decide +kernel) ⟨Nat.le_of_ble_eq_true rfl, Nat.le_of_ble_eq_true rfl⟩) (rc_preV hT hW hK hE hS h0 (by decide) rfl (q := (RX8, TX8, 9)) rfl [.int w_2]) rfl rfl hl.1 rfl (lv_room (Nat.le_of_ble_eq_true rfl)) dX8_hail_21 ⟨Nat.le_of_ble_eq_true rfl, Nat.le_of_ble_eq_true rfl⟩) (fun H locs h0_3 hW hS => ?_)
  have hm := hm0 h0_3
  clear hm0 hc_3 hk_3
  exact rc_xiret hx hb hr hlocks hW hS (Nat.le_of_ble_eq_true rfl) (Nat.le_of_ble_eq_true rfl) hm dX8_hail_24
set_option maxHeartbeats 4000000 in
set_option maxRecDepth 100000 in
theorem k_X8_sommelier (l : Launch) (hl9 : l.stackTraces = false) {Y : rc_Y} {sh : Nat → Nat} {rf : rc_F} (hT : rc_T Y sh rf) (a0 : Nat) (u1 : Int32) (u2 : Int32) (h0 : sh a0 = 9) (sz : Nat) (σ σ' : rc_S) (k : Nat) (r : Int32) (hm : f_X8_sommelier rf a0 u1 u2 σ = some (k, r, σ')) : vx_Met l yX8_sommelier (Cond.code yX8_sommelier cX8_sommelier 3 (some .int) :: rc_big) ({ frames := 7, cells := 1, slots := 6, locals := 102 } : Room) (rc_P Y sh rf σ sz [.ref a0, .int u1, .int u2]) (va_Qi (fun (r' : Int32) (_ : Unit) => k = 0 ∧ r' = r) (fun _ t => rc_W Y sh rf σ' t.heap) (rc_A sh sz)) (rc_XC Y sh rf σ' k sz) 1 6 (rc_A sh sz) := by
  refine vx_ofW (cc := cX8_sommelier) (maxL := 3) (ret := (some .int)) (by decide +kernel) rfl ?_
  intro p e s m args below meth c s₁ B hml hout hv
  obtain ⟨rfl, hsz, hW, hK, hE⟩ := hv
  have hx := B.exec
  have hb := B.bytes
  have hr := B.returns
  have hts : ∀ w ∈ rc_big, w.before _ s = true := fun w h => atoms_spec (ws := Cond.code yX8_sommelier cX8_sommelier 3 (some .int) :: rc_big) B.pre w (List.mem_cons_of_mem _ h)
  have hown : s.vm.findClass RX8 = some m.cls := findClass_of_methodNamed B.named
  have hlocks := B.notSynchronized
  clear B
  subst hsz
  have hS : va_S (rc_A sh s.heap.size) s.heap s.heap [] := va_S.rf
  have hl := lv_entry ([.ref a0, .int u1, .int u2]) (n := 3) (Nat.le_of_ble_eq_true rfl)
  rw [lg_entry_eq]
  generalize (lg_sl ([.ref a0, .int u1, .int u2]) ++ List.replicate (3 - (lg_sl ([.ref a0, .int u1, .int u2])).length) Slot.unset).toArray = ls at hl ⊢
  have hl : lv_has ls 3 [(0, .ref a0), (1, .int u1), (2, .int u2)] := hl
  unfold f_X8_sommelier at hm
  refine lv_aload_n hx hb dX8_sommelier_0 rfl (lv_at hl 0 rfl) ?_
  refine rg_9_5 hx hb hts hown hK hW h0 tw_2_87 dX8_sommelier_1 ?_
  refine lv_aload_n hx hb dX8_sommelier_4 rfl (lv_at hl 0 rfl) ?_
  refine rg_9_1 hx hb hts hown hK hW h0 tw_2_83 dX8_sommelier_5 ?_
  obtain ⟨w_1, σ_1, hc_1, hm0⟩ := rc_bd_inv hm
  clear hm
  refine rc_cv hS (va_runV (As := [.ref (rf a0 1)]) (rest := []) ⟨hx, hb, hml, hown, hts⟩ (k_X2_setAside l hT (rf a0 5) (rf a0 1) (rc_t_9_5 hT h0) (rc_t_9_1 hT h0) s.heap.size _ _ _ hc_1) (cwV 1 hts (rc_gV tw_3_140 tw_3_141 tw_3_142 tw_1_8 tw_3_143) rfl rfl rfl (by decide +kernel) ⟨Nat.le_of_ble_eq_true rfl, Nat.le_of_ble_eq_true rfl⟩) (rc_preV hT hW hK hE hS (rc_t_9_5 hT h0) (by decide) rfl (q := (RX2, TX2, 3)) rfl [.ref (rf a0 1)]) rfl rfl hl.1 rfl (lv_room (Nat.le_of_ble_eq_true rfl)) dX8_sommelier_8 ⟨Nat.le_of_ble_eq_true rfl, Nat.le_of_ble_eq_true rfl⟩) (fun H locs hW hS => ?_)
  have hm := hm0
  clear hm0 hc_1
  refine lv_aload_n hx hb dX8_sommelier_11 rfl (lv_at hl 0 rfl) ?_
  refine lv_aload_n hx hb dX8_sommelier_12 rfl (lv_at hl 0 rfl) ?_
  refine rg_9_0 hx hb hts hown hK hW h0 tw_2_82 dX8_sommelier_13 ?_
  refine lv_iload_n hx hb dX8_sommelier_16 rfl (lv_at hl 1 rfl) ?_
  refine lv_iload_n hx hb dX8_sommelier_17 rfl (lv_at hl 2 rfl) ?_
  obtain ⟨w_2, σ_2, hc_2, hm0⟩ := rc_bd_inv hm
  clear hm
  refine rc_ci hS (va_runV (As := [.int u1, .int u2]) (rest := [.ref a0]) ⟨hx, hb, hml, hown, hts⟩ (k_X7_letCome l hT (rf a0 0) u1 u2 (rc_t_9_0 hT h0) H.size _ _ _ hc_2) (cwV 2 hts (rc_gV tw_4_21 tw_4_22 tw_4_23 tw_1_2 tw_4_24) rfl rfl rfl (by decide +kernel) ⟨Nat.le_of_ble_eq_true rfl, Nat.le_of_ble_eq_true rfl⟩) (rc_preV hT hW hK hE hS (rc_t_9_0 hT h0) (by decide) rfl (q := (RX7, TX7, 2)) rfl [.int u1, .int u2]) rfl rfl hl.1 rfl (lv_room (Nat.le_of_ble_eq_true rfl)) dX8_sommelier_18 ⟨Nat.le_of_ble_eq_true rfl, Nat.le_of_ble_eq_true rfl⟩) (fun H locs hW hS => ?_)
  have hm := hm0
  clear hm0 hc_2
  obtain ⟨k_3, w_3, σ_3, hc_3, hm0, hk_3⟩ := rc_bx_inv hm
  clear hm
  refine rc_xci hout hlocks hS hk_3 (Nat.le_of_ble_eq_true rfl) (Nat.le_of_ble_eq_true rfl) (vx_runV (As := [.int w_2]) (rest := []) ⟨hx, hb, hml, hown, hts⟩ (k_X8_kept l hl9 hT a0 w_2 h0 H.size _ _ _ _ hc_3) (cwV 1 hts (rc_gV tw_3_192 tw_3_194 tw_p_6 tw_1_1 tw_3_195) rfl rfl rfl (by decide +kernel) ⟨Nat.le_of_ble_eq_true rfl, Nat.le_of_ble_eq_true rfl⟩) (rc_preV hT hW hK hE hS h0 (by decide) rfl (q := (RX8, TX8, 9)) rfl [.int w_2]) rfl rfl hl.1 rfl (lv_room (Nat.le_of_ble_eq_true rfl)) dX8_sommelier_21 ⟨Nat.le_of_ble_eq_true rfl, Nat.le_of_ble_eq_true rfl⟩) (fun H locs h0_3 hW hS => ?_)
  have hm := hm0 h0_3
  clear hm0 hc_3 hk_3
  exact rc_xiret hx hb hr hlocks hW hS (Nat.le_of_ble_eq_true rfl) (Nat.le_of_ble_eq_true rfl) hm dX8_sommelier_24
