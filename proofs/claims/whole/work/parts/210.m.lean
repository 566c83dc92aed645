def f_X9_commands_41 (rf : rc_F) (a0 : Nat) (K : rc_S → Option (Int32 × rc_S)) : Nat → rc_S → Option (Int32 × rc_S)
  | 0, _ => none
  | n + 1, σ =>
    if (σ a0 21) = 0 then
      rc_bd (f_X9_here rf a0 σ) fun w_9 σ_9 =>
      if w_9 = (59 : Int32) then
        rc_lt (rc_up σ_9 a0 18 ((σ_9 a0 18) + (1 : Int32))) fun σ_10 =>
        rc_bd (f_X9_readsOne rf a0 σ_10) fun _ σ_11 =>
        f_X9_commands_41 rf a0 K n σ_11
      else
        K σ_9
    else
      K σ
def f_X9_commands_131 (rf : rc_F) (a0 : Nat) (v1 : Int32) (v2 : Int32) (K : Int32 → rc_S → Option (Int32 × rc_S)) : Nat → Int32 → rc_S → Option (Int32 × rc_S)
  | 0, _, _ => none
  | n + 1, v3, σ =>
    if (107 : Int32) ≤ v3 then
      K v3 σ
    else
      rc_ck (rc_in v3 107) <|
      rc_ck (rc_in v3 107) <|
      rc_lt (rc_up σ (rf a0 1) v3.toNatClampNeg (σ (rf a0 2) v3.toNatClampNeg)) fun σ_20 =>
      rc_lt (v3 + 1) fun v3_21 =>
      f_X9_commands_131 rf a0 v1 v2 K n v3_21 σ_20
def f_X9_commands_108 (rf : rc_F) (a0 : Nat) (K : Int32 → rc_S → Option (Int32 × rc_S)) : Nat → Int32 → rc_S → Option (Int32 × rc_S)
  | 0, _, _ => none
  | n + 1, v1, σ =>
    if (σ a0 20) ≤ v1 then
      K v1 σ
    else
      rc_bd (f_X9_does rf a0 v1 σ) fun w_17 σ_17 =>
      if w_17 = 0 then
        rc_lt (v1 + 1) fun v1_29 =>
        f_X9_commands_108 rf a0 K n v1_29 σ_17
      else
        f_X9_commands_131 rf a0 v1 w_17 (fun v3_23 σ_24 =>
          rc_lt (rc_up σ_24 a0 13 w_17) fun σ_25 =>
          rc_lt (rc_up σ_25 a0 14 (σ_25 a0 16)) fun σ_26 =>
          rc_lt (rc_up σ_26 a0 15 v1) fun σ_27 =>
          rc_bd (f_X9_fails rf a0 (2 : Int32) σ_27) fun w_28 σ_28 =>
          some (w_28, σ_28)
        ) rc_fu (0 : Int32) σ_17
def f_X9_commands (rf : rc_F) (a0 : Nat) (σ : rc_S) : Option (Int32 × rc_S) :=
  rc_bd (f_X9_remembers rf a0 σ) fun _ σ_1 =>
  rc_lt (rc_up σ_1 a0 18 (0 : Int32)) fun σ_2 =>
  rc_lt (rc_up σ_2 a0 19 (σ_2 a0 10)) fun σ_3 =>
  rc_lt (rc_up σ_3 a0 10 (0 : Int32)) fun σ_4 =>
  rc_lt (rc_up σ_4 a0 20 (0 : Int32)) fun σ_5 =>
  rc_lt (rc_up σ_5 a0 21 (0 : Int32)) fun σ_6 =>
  rc_lt (rc_up σ_6 a0 12 (-1 : Int32)) fun σ_7 =>
  rc_bd (f_X9_readsOne rf a0 σ_7) fun _ σ_8 =>
  f_X9_commands_41 rf a0 (fun  σ_14 =>
    if (σ_14 a0 21) = 0 then
      if (σ_14 a0 19) ≤ (σ_14 a0 18) then
        f_X9_commands_108 rf a0 (fun v1_32 σ_33 =>
          rc_bd (f_X9_changed rf a0 (σ_33 a0 20) σ_33) fun w_34 σ_34 =>
          some (w_34, σ_34)
        ) rc_fu (0 : Int32) σ_14
      else
        rc_lt (rc_up σ_14 a0 12 (σ_14 a0 18)) fun σ_35 =>
        rc_bd (f_X9_fails rf a0 (1 : Int32) σ_35) fun w_36 σ_36 =>
        some (w_36, σ_36)
    else
      rc_lt (rc_up σ_14 a0 12 (σ_14 a0 18)) fun σ_15 =>
      rc_bd (f_X9_fails rf a0 (1 : Int32) σ_15) fun w_16 σ_16 =>
      some (w_16, σ_16)
  ) rc_fu  σ_8
def f_X9_faultPosition (rf : rc_F) (a0 : Nat) (σ : rc_S) : Option (Int32 × rc_S) :=
  rc_lt (rc_up σ a0 0 (0 : Int32)) fun σ_1 =>
  some ((σ_1 a0 12), σ_1)
def f_X9_reason (rf : rc_F) (a0 : Nat) (u1 : Int32) (σ : rc_S) : Option (Int32 × rc_S) :=
  rc_bd (f_X9_in rf u1 (0 : Int32) (2 : Int32) σ) fun w_1 σ_1 =>
  if w_1 = 0 then
    rc_lt (rc_up σ_1 a0 0 (1 : Int32)) fun σ_11 =>
    if (σ_11 a0 0) ≤ 0 then
      if u1 = 0 then
        some ((σ_11 a0 13), σ_11)
      else
        if u1 = (1 : Int32) then
          some ((σ_11 a0 14), σ_11)
        else
          some ((σ_11 a0 15), σ_11)
    else
      some ((0 : Int32), σ_11)
  else
    if (σ_1 a0 13) = 0 then
      rc_lt (rc_up σ_1 a0 0 (2 : Int32)) fun σ_6 =>
      if (σ_6 a0 0) ≤ 0 then
        if u1 = 0 then
          some ((σ_6 a0 13), σ_6)
        else
          if u1 = (1 : Int32) then
            some ((σ_6 a0 14), σ_6)
          else
            some ((σ_6 a0 15), σ_6)
      else
        some ((0 : Int32), σ_6)
    else
      rc_lt (rc_up σ_1 a0 0 (0 : Int32)) fun σ_2 =>
      if (σ_2 a0 0) ≤ 0 then
        if u1 = 0 then
          some ((σ_2 a0 13), σ_2)
        else
          if u1 = (1 : Int32) then
            some ((σ_2 a0 14), σ_2)
          else
            some ((σ_2 a0 15), σ_2)
      else
        some ((0 : Int32), σ_2)
def f_X9_writes (rf : rc_F) (a0 : Nat) (u1 : Int32) (σ : rc_S) : Option (Unit × rc_S) :=
  rc_ck (rc_in (σ a0 11) 60) <|
  rc_lt (rc_up σ (rf a0 9) (σ a0 11).toNatClampNeg u1) fun σ_2 =>
  rc_lt (rc_up σ_2 a0 11 ((σ_2 a0 11) + (1 : Int32))) fun σ_3 =>
  some ((), σ_3)
def f_X9_writesNumber (rf : rc_F) (a0 : Nat) (u1 : Int32) (σ : rc_S) : Option (Unit × rc_S) :=
  if u1 ≤ (999 : Int32) then
    if u1 ≤ (99 : Int32) then
      if u1 ≤ (9 : Int32) then
        rc_bd (f_X9_writes rf a0 ((48 : Int32) + (u1 - u1 / (10 : Int32) * (10 : Int32))) σ) fun _ σ_1 =>
        some ((), σ_1)
      else
        rc_bd (f_X9_writes rf a0 ((48 : Int32) + ((u1 / (10 : Int32)) - (u1 / (10 : Int32)) / (10 : Int32) * (10 : Int32))) σ) fun _ σ_2 =>
        rc_bd (f_X9_writes rf a0 ((48 : Int32) + (u1 - u1 / (10 : Int32) * (10 : Int32))) σ_2) fun _ σ_3 =>
        some ((), σ_3)
    else
      rc_bd (f_X9_writes rf a0 ((48 : Int32) + ((u1 / (100 : Int32)) - (u1 / (100 : Int32)) / (10 : Int32) * (10 : Int32))) σ) fun _ σ_5 =>
      if u1 ≤ (9 : Int32) then
        rc_bd (f_X9_writes rf a0 ((48 : Int32) + (u1 - u1 / (10 : Int32) * (10 : Int32))) σ_5) fun _ σ_6 =>
        some ((), σ_6)
      else
        rc_bd (f_X9_writes rf a0 ((48 : Int32) + ((u1 / (10 : Int32)) - (u1 / (10 : Int32)) / (10 : Int32) * (10 : Int32))) σ_5) fun _ σ_7 =>
        rc_bd (f_X9_writes rf a0 ((48 : Int32) + (u1 - u1 / (10 : Int32) * (10 : Int32))) σ_7) fun _ σ_8 =>
        some ((), σ_8)
  else
    rc_bd (f_X9_writes rf a0 ((48 : Int32) + (u1 / (1000 : Int32))) σ) fun _ σ_11 =>
    if u1 ≤ (99 : Int32) then
      if u1 ≤ (9 : Int32) then
        rc_bd (f_X9_writes rf a0 ((48 : Int32) + (u1 - u1 / (10 : Int32) * (10 : Int32))) σ_11) fun _ σ_12 =>
        some ((), σ_12)
      else
        rc_bd (f_X9_writes rf a0 ((48 : Int32) + ((u1 / (10 : Int32)) - (u1 / (10 : Int32)) / (10 : Int32) * (10 : Int32))) σ_11) fun _ σ_13 =>
        rc_bd (f_X9_writes rf a0 ((48 : Int32) + (u1 - u1 / (10 : Int32) * (10 : Int32))) σ_13) fun _ σ_14 =>
        some ((), σ_14)
    else
      rc_bd (f_X9_writes rf a0 ((48 : Int32) + ((u1 / (100 : Int32)) - (u1 / (100 : Int32)) / (10 : Int32) * (10 : Int32))) σ_11) fun _ σ_16 =>
      if u1 ≤ (9 : Int32) then
        rc_bd (f_X9_writes rf a0 ((48 : Int32) + (u1 - u1 / (10 : Int32) * (10 : Int32))) σ_16) fun _ σ_17 =>
        some ((), σ_17)
      else
        rc_bd (f_X9_writes rf a0 ((48 : Int32) + ((u1 / (10 : Int32)) - (u1 / (10 : Int32)) / (10 : Int32) * (10 : Int32))) σ_16) fun _ σ_18 =>
        rc_bd (f_X9_writes rf a0 ((48 : Int32) + (u1 - u1 / (10 : Int32) * (10 : Int32))) σ_18) fun _ σ_19 =>
        some ((), σ_19)
def f_X9_line (rf : rc_F) (a0 : Nat) (u1 : Int32) (σ : rc_S) : Option (Int32 × rc_S) :=
  rc_bd (f_X9_isBarrel rf a0 u1 σ) fun w_1 σ_1 =>
  if w_1 = 0 then
    rc_lt (rc_up σ_1 a0 0 (1 : Int32)) fun σ_2 =>
    if (σ_2 a0 0) ≤ 0 then
      rc_lt (rc_up σ_2 a0 11 (0 : Int32)) fun σ_3 =>
      rc_bd (f_X9_of rf a0 u1 (0 : Int32) σ_3) fun w_4 σ_4 =>
      rc_bd (f_X9_writesNumber rf a0 w_4 σ_4) fun _ σ_5 =>
      rc_bd (f_X9_writes rf a0 (58 : Int32) σ_5) fun _ σ_6 =>
      rc_bd (f_X9_of rf a0 u1 (1 : Int32) σ_6) fun w_7 σ_7 =>
      rc_bd (f_X9_writesNumber rf a0 w_7 σ_7) fun _ σ_8 =>
      rc_bd (f_X9_of rf a0 u1 (1 : Int32) σ_8) fun w_9 σ_9 =>
      if w_9 = 0 then
        some ((σ_9 a0 11), σ_9)
      else
        rc_bd (f_X9_writes rf a0 (35 : Int32) σ_9) fun _ σ_10 =>
        rc_bd (f_X9_of rf a0 u1 (3 : Int32) σ_10) fun w_11 σ_11 =>
        rc_bd (f_X9_writesNumber rf a0 w_11 σ_11) fun _ σ_12 =>
        rc_bd (f_X9_writes rf a0 (109 : Int32) σ_12) fun _ σ_13 =>
        rc_bd (f_X9_of rf a0 u1 (4 : Int32) σ_13) fun w_14 σ_14 =>
        rc_bd (f_X9_writesNumber rf a0 w_14 σ_14) fun _ σ_15 =>
        rc_bd (f_X9_of rf a0 u1 (2 : Int32) σ_15) fun w_16 σ_16 =>
        if w_16 = 0 then
          some ((σ_16 a0 11), σ_16)
        else
          rc_bd (f_X9_writes rf a0 (104 : Int32) σ_16) fun _ σ_17 =>
          rc_bd (f_X9_of rf a0 u1 (2 : Int32) σ_17) fun w_18 σ_18 =>
          rc_bd (f_X9_writesNumber rf a0 w_18 σ_18) fun _ σ_19 =>
          some ((σ_19 a0 11), σ_19)
    else
      some ((0 : Int32), σ_2)
  else
    rc_lt (rc_up σ_1 a0 0 (0 : Int32)) fun σ_23 =>
    if (σ_23 a0 0) ≤ 0 then
      rc_lt (rc_up σ_23 a0 11 (0 : Int32)) fun σ_24 =>
      rc_bd (f_X9_of rf a0 u1 (0 : Int32) σ_24) fun w_25 σ_25 =>
      rc_bd (f_X9_writesNumber rf a0 w_25 σ_25) fun _ σ_26 =>
      rc_bd (f_X9_writes rf a0 (58 : Int32) σ_26) fun _ σ_27 =>
      rc_bd (f_X9_of rf a0 u1 (1 : Int32) σ_27) fun w_28 σ_28 =>
      rc_bd (f_X9_writesNumber rf a0 w_28 σ_28) fun _ σ_29 =>
      rc_bd (f_X9_of rf a0 u1 (1 : Int32) σ_29) fun w_30 σ_30 =>
      if w_30 = 0 then
        some ((σ_30 a0 11), σ_30)
      else
        rc_bd (f_X9_writes rf a0 (35 : Int32) σ_30) fun _ σ_31 =>
        rc_bd (f_X9_of rf a0 u1 (3 : Int32) σ_31) fun w_32 σ_32 =>
        rc_bd (f_X9_writesNumber rf a0 w_32 σ_32) fun _ σ_33 =>
        rc_bd (f_X9_writes rf a0 (109 : Int32) σ_33) fun _ σ_34 =>
        rc_bd (f_X9_of rf a0 u1 (4 : Int32) σ_34) fun w_35 σ_35 =>
        rc_bd (f_X9_writesNumber rf a0 w_35 σ_35) fun _ σ_36 =>
        rc_bd (f_X9_of rf a0 u1 (2 : Int32) σ_36) fun w_37 σ_37 =>
        if w_37 = 0 then
          some ((σ_37 a0 11), σ_37)
        else
          rc_bd (f_X9_writes rf a0 (104 : Int32) σ_37) fun _ σ_38 =>
          rc_bd (f_X9_of rf a0 u1 (2 : Int32) σ_38) fun w_39 σ_39 =>
          rc_bd (f_X9_writesNumber rf a0 w_39 σ_39) fun _ σ_40 =>
          some ((σ_40 a0 11), σ_40)
    else
      some ((0 : Int32), σ_23)
def f_X9_panel_12 (rf : rc_F) (a0 : Nat) (K : Int32 → rc_S → Option (Int32 × rc_S)) : Nat → Int32 → rc_S → Option (Int32 × rc_S)
  | 0, _, _ => none
  | n + 1, v1, σ =>
    if (σ (rf a0 1) 1) ≤ v1 then
      K v1 σ
    else
      if v1 ≤ 0 then
        rc_ck (rc_in (((63 : Int32) + ((2 : Int32) * v1)) + (1 : Int32)) 107) <|
        if (σ (rf a0 1) (((63 : Int32) + ((2 : Int32) * v1)) + (1 : Int32)).toNatClampNeg) = (1 : Int32) then
          rc_bd (f_X9_writes rf a0 (116 : Int32) σ) fun _ σ_8 =>
          rc_ck (rc_in ((63 : Int32) + ((2 : Int32) * v1)) 107) <|
          rc_bd (f_X9_writesNumber rf a0 (σ_8 (rf a0 1) ((63 : Int32) + ((2 : Int32) * v1)).toNatClampNeg) σ_8) fun _ σ_10 =>
          rc_lt (v1 + 1) fun v1_11 =>
          f_X9_panel_12 rf a0 K n v1_11 σ_10
        else
          rc_bd (f_X9_writes rf a0 (109 : Int32) σ) fun _ σ_4 =>
          rc_ck (rc_in ((63 : Int32) + ((2 : Int32) * v1)) 107) <|
          rc_bd (f_X9_writesNumber rf a0 (σ_4 (rf a0 1) ((63 : Int32) + ((2 : Int32) * v1)).toNatClampNeg) σ_4) fun _ σ_6 =>
          rc_lt (v1 + 1) fun v1_7 =>
          f_X9_panel_12 rf a0 K n v1_7 σ_6
      else
        rc_bd (f_X9_writes rf a0 (32 : Int32) σ) fun _ σ_13 =>
        rc_ck (rc_in (((63 : Int32) + ((2 : Int32) * v1)) + (1 : Int32)) 107) <|
        if (σ_13 (rf a0 1) (((63 : Int32) + ((2 : Int32) * v1)) + (1 : Int32)).toNatClampNeg) = (1 : Int32) then
          rc_bd (f_X9_writes rf a0 (116 : Int32) σ_13) fun _ σ_19 =>
          rc_ck (rc_in ((63 : Int32) + ((2 : Int32) * v1)) 107) <|
          rc_bd (f_X9_writesNumber rf a0 (σ_19 (rf a0 1) ((63 : Int32) + ((2 : Int32) * v1)).toNatClampNeg) σ_19) fun _ σ_21 =>
          rc_lt (v1 + 1) fun v1_22 =>
          f_X9_panel_12 rf a0 K n v1_22 σ_21
        else
          rc_bd (f_X9_writes rf a0 (109 : Int32) σ_13) fun _ σ_15 =>
          rc_ck (rc_in ((63 : Int32) + ((2 : Int32) * v1)) 107) <|
          rc_bd (f_X9_writesNumber rf a0 (σ_15 (rf a0 1) ((63 : Int32) + ((2 : Int32) * v1)).toNatClampNeg) σ_15) fun _ σ_17 =>
          rc_lt (v1 + 1) fun v1_18 =>
          f_X9_panel_12 rf a0 K n v1_18 σ_17
def f_X9_panel (rf : rc_F) (a0 : Nat) (σ : rc_S) : Option (Int32 × rc_S) :=
  rc_lt (rc_up σ a0 0 (0 : Int32)) fun σ_1 =>
  rc_lt (rc_up σ_1 a0 11 (0 : Int32)) fun σ_2 =>
  f_X9_panel_12 rf a0 (fun v1_26 σ_27 =>
    some ((σ_27 a0 11), σ_27)
  ) rc_fu (0 : Int32) σ_2
set_option maxHeartbeats 4000000 in
set_option maxRecDepth 100000 in
theorem k_X9_commands (l : Launch) {Y : rc_Y} {sh : Nat → Nat} {rf : rc_F} (hT : rc_T Y sh rf) (a0 : Nat) (h0 : sh a0 = 10) (sz : Nat) (σ σ' : rc_S) (r : Int32) (hm : f_X9_commands rf a0 σ = some (r, σ')) : Met l yX9_commands (Cond.code yX9_commands cX9_commands 4 (some .int) :: rc_big) ({ frames := 5, cells := 0, slots := 0, locals := 116 } : Room) (rc_P Y sh rf σ sz [.ref a0]) (va_Qi (fun (r' : Int32) (_ : Unit) => r' = r) (fun _ t => rc_W Y sh rf σ' t.heap) (rc_A sh sz)) 0 0 (rc_A sh sz) := by
  refine Met.ofW (cc := cX9_commands) (maxL := 4) (ret := (some .int)) (by decide +kernel) rfl ?_
  intro p e s m args below meth c s₁ B hml hv
  obtain ⟨rfl, hsz, hW, hK, hE⟩ := hv
  have hx := B.exec
  have hb := B.bytes
  have hr := B.returns
  have hts : ∀ w ∈ rc_big, w.before _ s = true := fun w h => atoms_spec (ws := Cond.code yX9_commands cX9_commands 4 (some .int) :: rc_big) B.pre w (List.mem_cons_of_mem _ h)
  have hown : s.vm.findClass RX9 = some m.cls := findClass_of_methodNamed B.named
  have hlocks := B.notSynchronized
  clear B
  subst hsz
  have hS : va_S (rc_A sh s.heap.size) s.heap s.heap [] := va_S.rf
  have hl := lv_entry ([.ref a0]) (n := 4) (Nat.le_of_ble_eq_true rfl)
  rw [lg_entry_eq]
  generalize (lg_sl ([.ref a0]) ++ List.replicate (4 - (lg_sl ([.ref a0])).length) Slot.unset).toArray = ls at hl ⊢
  have hl : lv_has ls 4 [(0, .ref a0)] := hl
  have lp_41 : ∀ (K : rc_S → Option (Int32 × rc_S)) (hKK : ∀ (σ : rc_S) (H : Heap) (locs : List Loc) (ls : Array Slot), K σ = some (r, σ') → rc_W Y sh rf σ H → va_S (rc_A sh s.heap.size) s.heap H locs → lv_has ls 4 [(0, .ref a0)] → W p l e (headSpec (Cond.code yX9_commands cX9_commands 4 (some .int) :: rc_big) ({ frames := 5, cells := 0, slots := 0, locals := 116 } : Room)).room s m (([.ref a0] : List Value).toArray) below meth c H locs (0 + 0 + 0) (0 + 0 + 0) (MQ below (va_Qi (fun (r' : Int32) (_ : Unit) => r' = r) (fun _ t => rc_W Y sh rf σ' t.heap) (rc_A sh s.heap.size)) ([.ref a0] : List Value).toArray s 0 0 (rc_A sh s.heap.size)) (F0 m 74 ls [])) (n : Nat) (σ : rc_S) (H : Heap) (locs : List Loc) (ls : Array Slot), f_X9_commands_41 rf a0 K n σ = some (r, σ') → rc_W Y sh rf σ H → va_S (rc_A sh s.heap.size) s.heap H locs → lv_has ls 4 [(0, .ref a0)] → W p l e (headSpec (Cond.code yX9_commands cX9_commands 4 (some .int) :: rc_big) ({ frames := 5, cells := 0, slots := 0, locals := 116 } : Room)).room s m (([.ref a0] : List Value).toArray) below meth c H locs (0 + 0 + 0) (0 + 0 + 0) (MQ below (va_Qi (fun (r' : Int32) (_ : Unit) => r' = r) (fun _ t => rc_W Y sh rf σ' t.heap) (rc_A sh s.heap.size)) ([.ref a0] : List Value).toArray s 0 0 (rc_A sh s.heap.size)) (F0 m 41 ls []) := by
    intro  K hKK n
    induction n with
    | zero =>
      intro  σ H locs ls hm
      rw [f_X9_commands_41] at hm
      cases hm
    | succ n ih =>
      intro  σ H locs ls hm hW hS hl
      rw [f_X9_commands_41] at hm
      refine lv_aload_n hx hb dX9_commands_41 rfl (lv_at hl 0 rfl) ?_
      refine rg_10_21 hx hb hts hown hK hW h0 tw_7_90 dX9_commands_42 ?_
      refine lv_if_ne (tgt := 74) hx hb dX9_commands_45 (by decide) (fun c_13 => ?_) (fun c_13 => ?_)
      · replace hm := rc_f hm c_13
        exact hKK  σ _ _ _ hm hW hS (lv_sub hl [0] rfl)
      · replace hm := rc_t hm c_13
        refine lv_aload_n hx hb dX9_commands_48 rfl (lv_at hl 0 rfl) ?_
        obtain ⟨w_9, σ_9, hc_9, hm0⟩ := rc_bd_inv hm
        clear hm
        refine rc_ci hS (va_runV (As := []) (rest := []) ⟨hx, hb, hml, hown, hts⟩ (k_X9_here l hT a0 h0 H.size _ _ _ hc_9) (cwV 0 hts (rc_gV tw_8_161 tw_8_163 tw_p_51 tw_1_14 tw_8_164) rfl rfl rfl (by decide +kernel) ⟨Nat.le_of_ble_eq_true rfl, Nat.le_of_ble_eq_true rfl⟩) (rc_preV hT hW hK hE hS h0 (by decide) rfl (q := (RX9, TX9, 22)) rfl []) rfl rfl hl.1 rfl (lv_room (Nat.le_of_ble_eq_true rfl)) dX9_commands_49 ⟨Nat.le_of_ble_eq_true rfl, Nat.le_of_ble_eq_true rfl⟩) (fun H locs hW hS => ?_)
        have hm := hm0
        clear hm0 hc_9
        refine lv_bipush (v := 59) hx hb dX9_commands_52 (by decide) ?_
        refine lv_icmp_ne (tgt := 74) hx hb dX9_commands_54 (by decide) (fun c_12 => ?_) (fun c_12 => ?_)
        · replace hm := rc_f hm c_12
          exact hKK  σ_9 _ _ _ hm hW hS (lv_sub hl [0] rfl)
        · replace hm := rc_t hm c_12
          refine lv_aload_n hx hb dX9_commands_57 rfl (lv_at hl 0 rfl) ?_
          refine lv_dup hx hb dX9_commands_58 rfl ?_
          refine rg_10_18 hx hb hts hown hK hW h0 tw_7_87 dX9_commands_59 ?_
          refine lv_iconst (v := 1) hx hb dX9_commands_62 (by decide) ?_
          refine lv_iadd hx hb dX9_commands_63 ?_
          refine rp_10_18 hx hb hts hown hK hW hS h0 tw_7_87 dX9_commands_64 (fun σ_10 H locs eσ hW hS => ?_)
          replace hm := rc_lt_at hm eσ
          clear eσ
          refine lv_aload_n hx hb dX9_commands_67 rfl (lv_at hl 0 rfl) ?_
          obtain ⟨w_11, σ_11, hc_11, hm0⟩ := rc_bd_inv hm
          clear hm
          refine rc_cv hS (va_runV (As := []) (rest := []) ⟨hx, hb, hml, hown, hts⟩ (k_X9_readsOne l hT a0 h0 H.size _ _ _ hc_11) (cwV 0 hts (rc_gV tw_8_157 tw_8_159 tw_p_50 tw_1_14 tw_8_160) rfl rfl rfl (by decide +kernel) ⟨Nat.le_of_ble_eq_true rfl, Nat.le_of_ble_eq_true rfl⟩) (rc_preV hT hW hK hE hS h0 (by decide) rfl (q := (RX9, TX9, 22)) rfl []) rfl rfl hl.1 rfl (lv_room (Nat.le_of_ble_eq_true rfl)) dX9_commands_68 ⟨Nat.le_of_ble_eq_true rfl, Nat.le_of_ble_eq_true rfl⟩) (fun H locs hW hS => ?_)
          have hm := hm0
          clear hm0 hc_11
          refine lv_goto (tgt := 41) hx hb dX9_commands_71 (by decide) ?_
          exact ih  σ_11 _ _ _ hm hW hS (lv_sub hl [0] rfl)
  have lp_131 : ∀ (v1 : Int32) (v2 : Int32) (K : Int32 → rc_S → Option (Int32 × rc_S)) (hKK : ∀ (v3 : Int32) (σ : rc_S) (H : Heap) (locs : List Loc) (ls : Array Slot), K v3 σ = some (r, σ') → rc_W Y sh rf σ H → va_S (rc_A sh s.heap.size) s.heap H locs → lv_has ls 4 [(0, .ref a0), (1, .int v1), (2, .int v2)] → W p l e (headSpec (Cond.code yX9_commands cX9_commands 4 (some .int) :: rc_big) ({ frames := 5, cells := 0, slots := 0, locals := 116 } : Room)).room s m (([.ref a0] : List Value).toArray) below meth c H locs (0 + 0 + 0 + 0) (0 + 0 + 0 + 0) (MQ below (va_Qi (fun (r' : Int32) (_ : Unit) => r' = r) (fun _ t => rc_W Y sh rf σ' t.heap) (rc_A sh s.heap.size)) ([.ref a0] : List Value).toArray s 0 0 (rc_A sh s.heap.size)) (F0 m 155 ls [])) (n : Nat) (v3 : Int32) (σ : rc_S) (H : Heap) (locs : List Loc) (ls : Array Slot), f_X9_commands_131 rf a0 v1 v2 K n v3 σ = some (r, σ') → rc_W Y sh rf σ H → va_S (rc_A sh s.heap.size) s.heap H locs → lv_has ls 4 [(0, .ref a0), (1, .int v1), (2, .int v2), (3, .int v3)] → W p l e (headSpec (Cond.code yX9_commands cX9_commands 4 (some .int) :: rc_big) ({ frames := 5, cells := 0, slots := 0, locals := 116 } : Room)).room s m (([.ref a0] : List Value).toArray) below meth c H locs (0 + 0 + 0 + 0) (0 + 0 + 0 + 0) (MQ below (va_Qi (fun (r' : Int32) (_ : Unit) => r' = r) (fun _ t => rc_W Y sh rf σ' t.heap) (rc_A sh s.heap.size)) ([.ref a0] : List Value).toArray s 0 0 (rc_A sh s.heap.size)) (F0 m 131 ls []) := by
    intro v1 v2 K hKK n
    induction n with
    | zero =>
      intro v3 σ H locs ls hm
      rw [f_X9_commands_131] at hm
      cases hm
    | succ n ih =>
      intro v3 σ H locs ls hm hW hS hl
      rw [f_X9_commands_131] at hm
      refine lv_iload_n hx hb dX9_commands_131 rfl (lv_at hl 3 rfl) ?_
      refine lv_bipush (v := 107) hx hb dX9_commands_132 (by decide) ?_
      refine lv_icmp_ge (tgt := 155) hx hb dX9_commands_134 (by decide) (fun c_22 => ?_) (fun c_22 => ?_)
      · replace hm := rc_t hm c_22
        exact hKK v3 σ _ _ _ hm hW hS (lv_sub hl [0, 1, 2] rfl)
      · replace hm := rc_f hm c_22
        refine lv_aload_n hx hb dX9_commands_137 rfl (lv_at hl 0 rfl) ?_
        refine rg_10_1 hx hb hts hown hK hW h0 tw_7_70 dX9_commands_138 ?_
        refine lv_iload_n hx hb dX9_commands_141 rfl (lv_at hl 3 rfl) ?_
        refine lv_aload_n hx hb dX9_commands_142 rfl (lv_at hl 0 rfl) ?_
        refine rg_10_2 hx hb hts hown hK hW h0 tw_7_71 dX9_commands_143 ?_
        refine lv_iload_n hx hb dX9_commands_146 rfl (lv_at hl 3 rfl) ?_
        have hi_18 := (rc_ix hm).1
        replace hm := (rc_ix hm).2
        refine rc_ialdj (j := v3.toNatClampNeg) hx hb hK hW (rc_t_10_2 hT h0) (by decide) rfl hi_18 rfl dX9_commands_147 ?_
        have hi_19 := (rc_ix hm).1
        replace hm := (rc_ix hm).2
        refine rc_iastj (j := v3.toNatClampNeg) hx hb hK hW hS (rc_t_10_1 hT h0) (by decide) (fun _ => rfl) hi_19 rfl dX9_commands_148 (fun σ_20 H locs eσ hW hS => ?_)
        replace hm := rc_lt_at hm eσ
        clear eσ
        obtain ⟨v3_21, ev⟩ : ∃ y : Int32, y = (v3 + 1) := ⟨_, rfl⟩
        replace hm := rc_lt_at hm ev
        refine lv_iinc (v := v3_21) (lv' := [(3, .int v3_21), (0, .ref a0), (1, .int v1), (2, .int v2)]) hx hb dX9_commands_149 hl (k := 3) rfl (by rw [ev]; rfl) (by decide) rfl (fun ls hl => ?_)
        clear ev
        refine lv_goto (tgt := 131) hx hb dX9_commands_152 (by decide) ?_
        exact ih v3_21 σ_20 _ _ _ hm hW hS (lv_sub hl [1, 2, 3, 0] rfl)
  have lp_108 : ∀ (K : Int32 → rc_S → Option (Int32 × rc_S)) (hKK : ∀ (v1 : Int32) (σ : rc_S) (H : Heap) (locs : List Loc) (ls : Array Slot), K v1 σ = some (r, σ') → rc_W Y sh rf σ H → va_S (rc_A sh s.heap.size) s.heap H locs → lv_has ls 4 [(0, .ref a0)] → W p l e (headSpec (Cond.code yX9_commands cX9_commands 4 (some .int) :: rc_big) ({ frames := 5, cells := 0, slots := 0, locals := 116 } : Room)).room s m (([.ref a0] : List Value).toArray) below meth c H locs (0 + 0 + 0) (0 + 0 + 0) (MQ below (va_Qi (fun (r' : Int32) (_ : Unit) => r' = r) (fun _ t => rc_W Y sh rf σ' t.heap) (rc_A sh s.heap.size)) ([.ref a0] : List Value).toArray s 0 0 (rc_A sh s.heap.size)) (F0 m 185 ls [])) (n : Nat) (v1 : Int32) (σ : rc_S) (H : Heap) (locs : List Loc) (ls : Array Slot), f_X9_commands_108 rf a0 K n v1 σ = some (r, σ') → rc_W Y sh rf σ H → va_S (rc_A sh s.heap.size) s.heap H locs → lv_has ls 4 [(0, .ref a0), (1, .int v1)] → W p l e (headSpec (Cond.code yX9_commands cX9_commands 4 (some .int) :: rc_big) ({ frames := 5, cells := 0, slots := 0, locals := 116 } : Room)).room s m (([.ref a0] : List Value).toArray) below meth c H locs (0 + 0 + 0) (0 + 0 + 0) (MQ below (va_Qi (fun (r' : Int32) (_ : Unit) => r' = r) (fun _ t => rc_W Y sh rf σ' t.heap) (rc_A sh s.heap.size)) ([.ref a0] : List Value).toArray s 0 0 (rc_A sh s.heap.size)) (F0 m 108 ls []) := by
    intro  K hKK n
    induction n with
    | zero =>
      intro v1 σ H locs ls hm
      rw [f_X9_commands_108] at hm
      cases hm
    | succ n ih =>
      intro v1 σ H locs ls hm hW hS hl
      rw [f_X9_commands_108] at hm
      refine lv_iload_n hx hb dX9_commands_108 rfl (lv_at hl 1 rfl) ?_
      refine lv_aload_n hx hb dX9_commands_109 rfl (lv_at hl 0 rfl) ?_
      refine rg_10_20 hx hb hts hown hK hW h0 tw_7_89 dX9_commands_110 ?_
      refine lv_icmp_ge (tgt := 185) hx hb dX9_commands_113 (by decide) (fun c_31 => ?_) (fun c_31 => ?_)
      · replace hm := rc_t hm c_31
        exact hKK v1 σ _ _ _ hm hW hS (lv_sub hl [0] rfl)
      · replace hm := rc_f hm c_31
        refine lv_aload_n hx hb dX9_commands_116 rfl (lv_at hl 0 rfl) ?_
        refine lv_iload_n hx hb dX9_commands_117 rfl (lv_at hl 1 rfl) ?_
        obtain ⟨w_17, σ_17, hc_17, hm0⟩ := rc_bd_inv hm
        clear hm
        refine rc_ci hS (va_runV (As := [.int v1]) (rest := []) ⟨hx, hb, hml, hown, hts⟩ (k_X9_does l hT a0 v1 h0 H.size _ _ _ hc_17) (cwV 1 hts (rc_gV tw_8_173 tw_8_175 tw_p_54 tw_1_14 tw_8_176) rfl rfl rfl (by decide +kernel) ⟨Nat.le_of_ble_eq_true rfl, Nat.le_of_ble_eq_true rfl⟩) (rc_preV hT hW hK hE hS h0 (by decide) rfl (q := (RX9, TX9, 22)) rfl [.int v1]) rfl rfl hl.1 rfl (lv_room (Nat.le_of_ble_eq_true rfl)) dX9_commands_118 ⟨Nat.le_of_ble_eq_true rfl, Nat.le_of_ble_eq_true rfl⟩) (fun H locs hW hS => ?_)
        have hm := hm0
        clear hm0 hc_17
        refine lv_istore_n (lv' := [(2, .int w_17), (0, .ref a0), (1, .int v1)]) hx hb dX9_commands_121 rfl hl (by decide) rfl (fun ls hl => ?_)
        refine lv_iload_n hx hb dX9_commands_122 rfl (lv_at hl 0 rfl) ?_
        refine lv_if_ne (tgt := 129) hx hb dX9_commands_123 (by decide) (fun c_30 => ?_) (fun c_30 => ?_)
        · replace hm := rc_f hm c_30
          refine lv_iconst (v := 0) hx hb dX9_commands_129 (by decide) ?_
          refine lv_istore_n (lv' := [(3, .int (0 : Int32)), (2, .int w_17), (0, .ref a0), (1, .int v1)]) hx hb dX9_commands_130 rfl hl (by decide) rfl (fun ls hl => ?_)
          refine lp_131 v1 w_17 _ (fun v3_23 σ_24 H locs ls hm hW hS hl => ?_) rc_fu (0 : Int32) σ_17 _ _ _ hm hW hS (lv_sub hl [2, 3, 1, 0] rfl)
          refine lv_aload_n hx hb dX9_commands_155 rfl (lv_at hl 0 rfl) ?_
          refine lv_iload_n hx hb dX9_commands_156 rfl (lv_at hl 2 rfl) ?_
          refine rp_10_13 hx hb hts hown hK hW hS h0 tw_7_82 dX9_commands_157 (fun σ_25 H locs eσ hW hS => ?_)
          replace hm := rc_lt_at hm eσ
          clear eσ
          refine lv_aload_n hx hb dX9_commands_160 rfl (lv_at hl 0 rfl) ?_
          refine lv_aload_n hx hb dX9_commands_161 rfl (lv_at hl 0 rfl) ?_
          refine rg_10_16 hx hb hts hown hK hW h0 tw_7_85 dX9_commands_162 ?_
          refine rp_10_14 hx hb hts hown hK hW hS h0 tw_7_83 dX9_commands_165 (fun σ_26 H locs eσ hW hS => ?_)
          replace hm := rc_lt_at hm eσ
          clear eσ
          refine lv_aload_n hx hb dX9_commands_168 rfl (lv_at hl 0 rfl) ?_
          refine lv_iload_n hx hb dX9_commands_169 rfl (lv_at hl 1 rfl) ?_
          refine rp_10_15 hx hb hts hown hK hW hS h0 tw_7_84 dX9_commands_170 (fun σ_27 H locs eσ hW hS => ?_)
          replace hm := rc_lt_at hm eσ
          clear eσ
          refine lv_aload_n hx hb dX9_commands_173 rfl (lv_at hl 0 rfl) ?_
          refine lv_iconst (v := 2) hx hb dX9_commands_174 (by decide) ?_
          obtain ⟨w_28, σ_28, hc_28, hm0⟩ := rc_bd_inv hm
          clear hm
          refine rc_ci hS (va_runV (As := [.int (2 : Int32)]) (rest := []) ⟨hx, hb, hml, hown, hts⟩ (k_X9_fails l hT a0 (2 : Int32) h0 H.size _ _ _ hc_28) (cwV 1 hts (rc_gV tw_7_187 tw_7_189 tw_p_26 tw_1_14 tw_7_190) rfl rfl rfl (by decide +kernel) ⟨Nat.le_of_ble_eq_true rfl, Nat.le_of_ble_eq_true rfl⟩) (rc_preV hT hW hK hE hS h0 (by decide) rfl (q := (RX9, TX9, 22)) rfl [.int (2 : Int32)]) rfl rfl hl.1 rfl (lv_room (Nat.le_of_ble_eq_true rfl)) dX9_commands_175 ⟨Nat.le_of_ble_eq_true rfl, Nat.le_of_ble_eq_true rfl⟩) (fun H locs hW hS => ?_)
          have hm := hm0
          clear hm0 hc_28
          exact rc_eiret hx hb hr hlocks hW hS (Nat.le_of_ble_eq_true rfl) (Nat.le_of_ble_eq_true rfl) hm dX9_commands_178
        · replace hm := rc_t hm c_30
          refine lv_goto (tgt := 179) hx hb dX9_commands_126 (by decide) ?_
          obtain ⟨v1_29, ev⟩ : ∃ y : Int32, y = (v1 + 1) := ⟨_, rfl⟩
          replace hm := rc_lt_at hm ev
          refine lv_iinc (v := v1_29) (lv' := [(1, .int v1_29), (2, .int w_17), (0, .ref a0)]) hx hb dX9_commands_179 hl (k := 2) rfl (by rw [ev]; rfl) (by decide) rfl (fun ls hl => ?_)
          clear ev
          refine lv_goto (tgt := 108) hx hb dX9_commands_182 (by decide) ?_
          exact ih v1_29 σ_17 _ _ _ hm hW hS (lv_sub hl [2, 0] rfl)
  unfold f_X9_commands at hm
  refine lv_aload_n hx hb dX9_commands_0 rfl (lv_at hl 0 rfl) ?_
  obtain ⟨w_1, σ_1, hc_1, hm0⟩ := rc_bd_inv hm
  clear hm
  refine rc_cv hS (va_runV (As := []) (rest := []) ⟨hx, hb, hml, hown, hts⟩ (k_X9_remembers l hT a0 h0 s.heap.size _ _ _ hc_1) (cwV 0 hts (rc_gV tw_7_144 tw_7_146 tw_p_16 tw_1_14 tw_7_147) rfl rfl rfl (by decide +kernel) ⟨Nat.le_of_ble_eq_true rfl, Nat.le_of_ble_eq_true rfl⟩) (rc_preV hT hW hK hE hS h0 (by decide) rfl (q := (RX9, TX9, 22)) rfl []) rfl rfl hl.1 rfl (lv_room (Nat.le_of_ble_eq_true rfl)) dX9_commands_1 ⟨Nat.le_of_ble_eq_true rfl, Nat.le_of_ble_eq_true rfl⟩) (fun H locs hW hS => ?_)
  have hm := hm0
  clear hm0 hc_1
  refine lv_aload_n hx hb dX9_commands_4 rfl (lv_at hl 0 rfl) ?_
  refine lv_iconst (v := 0) hx hb dX9_commands_5 (by decide) ?_
  refine rp_10_18 hx hb hts hown hK hW hS h0 tw_7_87 dX9_commands_6 (fun σ_2 H locs eσ hW hS => ?_)
  replace hm := rc_lt_at hm eσ
  clear eσ
  refine lv_aload_n hx hb dX9_commands_9 rfl (lv_at hl 0 rfl) ?_
  refine lv_aload_n hx hb dX9_commands_10 rfl (lv_at hl 0 rfl) ?_
  refine rg_10_10 hx hb hts hown hK hW h0 tw_7_79 dX9_commands_11 ?_
  refine rp_10_19 hx hb hts hown hK hW hS h0 tw_7_88 dX9_commands_14 (fun σ_3 H locs eσ hW hS => ?_)
  replace hm := rc_lt_at hm eσ
  clear eσ
  refine lv_aload_n hx hb dX9_commands_17 rfl (lv_at hl 0 rfl) ?_
  refine lv_iconst (v := 0) hx hb dX9_commands_18 (by decide) ?_
  refine rp_10_10 hx hb hts hown hK hW hS h0 tw_7_79 dX9_commands_19 (fun σ_4 H locs eσ hW hS => ?_)
  replace hm := rc_lt_at hm eσ
  clear eσ
  refine lv_aload_n hx hb dX9_commands_22 rfl (lv_at hl 0 rfl) ?_
  refine lv_iconst (v := 0) hx hb dX9_commands_23 (by decide) ?_
  refine rp_10_20 hx hb hts hown hK hW hS h0 tw_7_89 dX9_commands_24 (fun σ_5 H locs eσ hW hS => ?_)
  replace hm := rc_lt_at hm eσ
  clear eσ
  refine lv_aload_n hx hb dX9_commands_27 rfl (lv_at hl 0 rfl) ?_
  refine lv_iconst (v := 0) hx hb dX9_commands_28 (by decide) ?_
  refine rp_10_21 hx hb hts hown hK hW hS h0 tw_7_90 rfl rfl dX9_commands_29 (fun σ_6 H locs eσ hW hS => ?_)
  replace hm := rc_lt_at hm eσ
  clear eσ
  refine lv_aload_n hx hb dX9_commands_32 rfl (lv_at hl 0 rfl) ?_
  refine lv_iconst (v := (-1)) hx hb dX9_commands_33 (by decide) ?_
  refine rp_10_12 hx hb hts hown hK hW hS h0 tw_7_81 dX9_commands_34 (fun σ_7 H locs eσ hW hS => ?_)
  replace hm := rc_lt_at hm eσ
  clear eσ
  refine lv_aload_n hx hb dX9_commands_37 rfl (lv_at hl 0 rfl) ?_
  obtain ⟨w_8, σ_8, hc_8, hm0⟩ := rc_bd_inv hm
  clear hm
  refine rc_cv hS (va_runV (As := []) (rest := []) ⟨hx, hb, hml, hown, hts⟩ (k_X9_readsOne l hT a0 h0 H.size _ _ _ hc_8) (cwV 0 hts (rc_gV tw_8_157 tw_8_159 tw_p_50 tw_1_14 tw_8_160) rfl rfl rfl (by decide +kernel) ⟨Nat.le_of_ble_eq_true rfl, Nat.le_of_ble_eq_true rfl⟩) (rc_preV hT hW hK hE hS h0 (by decide) rfl (q := (RX9, TX9, 22)) rfl []) rfl rfl hl.1 rfl (lv_room (Nat.le_of_ble_eq_true rfl)) dX9_commands_38 ⟨Nat.le_of_ble_eq_true rfl, Nat.le_of_ble_eq_true rfl⟩) (fun H locs hW hS => ?_)
  have hm := hm0
  clear hm0 hc_8
  refine lp_41 _ (fun  σ_14 H locs ls hm hW hS hl => ?_) rc_fu  σ_8 _ _ _ hm hW hS (lv_sub hl [0] rfl)
  refine lv_aload_n hx hb dX9_commands_74 rfl (lv_at hl 0 rfl) ?_
  refine rg_10_21 hx hb hts hown hK hW h0 tw_7_90 dX9_commands_75 ?_
  refine lv_if_ne (tgt := 92) hx hb dX9_commands_78 (by decide) (fun c_38 => ?_) (fun c_38 => ?_)
  · replace hm := rc_f hm c_38
    refine lv_aload_n hx hb dX9_commands_92 rfl (lv_at hl 0 rfl) ?_
    refine lv_aload_n hx hb dX9_commands_93 rfl (lv_at hl 0 rfl) ?_
    refine rg_10_18 hx hb hts hown hK hW h0 tw_7_87 dX9_commands_94 ?_
    refine rp_10_12 hx hb hts hown hK hW hS h0 tw_7_81 dX9_commands_97 (fun σ_15 H locs eσ hW hS => ?_)
    replace hm := rc_lt_at hm eσ
    clear eσ
    refine lv_aload_n hx hb dX9_commands_100 rfl (lv_at hl 0 rfl) ?_
    refine lv_iconst (v := 1) hx hb dX9_commands_101 (by decide) ?_
    obtain ⟨w_16, σ_16, hc_16, hm0⟩ := rc_bd_inv hm
    clear hm
    refine rc_ci hS (va_runV (As := [.int (1 : Int32)]) (rest := []) ⟨hx, hb, hml, hown, hts⟩ (k_X9_fails l hT a0 (1 : Int32) h0 H.size _ _ _ hc_16) (cwV 1 hts (rc_gV tw_7_187 tw_7_189 tw_p_26 tw_1_14 tw_7_190) rfl rfl rfl (by decide +kernel) ⟨Nat.le_of_ble_eq_true rfl, Nat.le_of_ble_eq_true rfl⟩) (rc_preV hT hW hK hE hS h0 (by decide) rfl (q := (RX9, TX9, 22)) rfl [.int (1 : Int32)]) rfl rfl hl.1 rfl (lv_room (Nat.le_of_ble_eq_true rfl)) dX9_commands_102 ⟨Nat.le_of_ble_eq_true rfl, Nat.le_of_ble_eq_true rfl⟩) (fun H locs hW hS => ?_)
    have hm := hm0
    clear hm0 hc_16
    exact rc_eiret hx hb hr hlocks hW hS (Nat.le_of_ble_eq_true rfl) (Nat.le_of_ble_eq_true rfl) hm dX9_commands_105
  · replace hm := rc_t hm c_38
    refine lv_aload_n hx hb dX9_commands_81 rfl (lv_at hl 0 rfl) ?_
    refine rg_10_18 hx hb hts hown hK hW h0 tw_7_87 dX9_commands_82 ?_
    refine lv_aload_n hx hb dX9_commands_85 rfl (lv_at hl 0 rfl) ?_
    refine rg_10_19 hx hb hts hown hK hW h0 tw_7_88 dX9_commands_86 ?_
    refine lv_icmp_ge (tgt := 106) hx hb dX9_commands_89 (by decide) (fun c_37 => ?_) (fun c_37 => ?_)
    · replace hm := rc_t hm c_37
      refine lv_iconst (v := 0) hx hb dX9_commands_106 (by decide) ?_
      refine lv_istore_n (lv' := [(1, .int (0 : Int32)), (0, .ref a0)]) hx hb dX9_commands_107 rfl hl (by decide) rfl (fun ls hl => ?_)
      refine lp_108 _ (fun v1_32 σ_33 H locs ls hm hW hS hl => ?_) rc_fu (0 : Int32) σ_14 _ _ _ hm hW hS (lv_sub hl [1, 0] rfl)
      refine lv_aload_n hx hb dX9_commands_185 rfl (lv_at hl 0 rfl) ?_
      refine lv_aload_n hx hb dX9_commands_186 rfl (lv_at hl 0 rfl) ?_
      refine rg_10_20 hx hb hts hown hK hW h0 tw_7_89 dX9_commands_187 ?_
      obtain ⟨w_34, σ_34, hc_34, hm0⟩ := rc_bd_inv hm
      clear hm
      refine rc_ci hS (va_runV (As := [.int (σ_33 a0 20)]) (rest := []) ⟨hx, hb, hml, hown, hts⟩ (k_X9_changed l hT a0 (σ_33 a0 20) h0 H.size _ _ _ hc_34) (cwV 1 hts (rc_gV tw_7_183 tw_7_185 tw_p_25 tw_1_14 tw_7_186) rfl rfl rfl (by decide +kernel) ⟨Nat.le_of_ble_eq_true rfl, Nat.le_of_ble_eq_true rfl⟩) (rc_preV hT hW hK hE hS h0 (by decide) rfl (q := (RX9, TX9, 22)) rfl [.int (σ_33 a0 20)]) rfl rfl hl.1 rfl (lv_room (Nat.le_of_ble_eq_true rfl)) dX9_commands_190 ⟨Nat.le_of_ble_eq_true rfl, Nat.le_of_ble_eq_true rfl⟩) (fun H locs hW hS => ?_)
      have hm := hm0
      clear hm0 hc_34
      exact rc_eiret hx hb hr hlocks hW hS (Nat.le_of_ble_eq_true rfl) (Nat.le_of_ble_eq_true rfl) hm dX9_commands_193
    · replace hm := rc_f hm c_37
      refine lv_aload_n hx hb dX9_commands_92 rfl (lv_at hl 0 rfl) ?_
      refine lv_aload_n hx hb dX9_commands_93 rfl (lv_at hl 0 rfl) ?_
      refine rg_10_18 hx hb hts hown hK hW h0 tw_7_87 dX9_commands_94 ?_
      refine rp_10_12 hx hb hts hown hK hW hS h0 tw_7_81 dX9_commands_97 (fun σ_35 H locs eσ hW hS => ?_)
      replace hm := rc_lt_at hm eσ
      clear eσ
      refine lv_aload_n hx hb dX9_commands_100 rfl (lv_at hl 0 rfl) ?_
      refine lv_iconst (v := 1) hx hb dX9_commands_101 (by decide) ?_
      obtain ⟨w_36, σ_36, hc_36, hm0⟩ := rc_bd_inv hm
      clear hm
      refine rc_ci hS (va_runV (As := [.int (1 : Int32)]) (rest := []) ⟨hx, hb, hml, hown, hts⟩ (k_X9_fails l hT a0 (1 : Int32) h0 H.size _ _ _ hc_36) (cwV 1 hts (rc_gV tw_7_187 tw_7_189 tw_p_26 tw_1_14 tw_7_190) rfl rfl rfl (by decide +kernel) ⟨Nat.le_of_ble_eq_true rfl, Nat.le_of_ble_eq_true rfl⟩) (rc_preV hT hW hK hE hS h0 (by decide) rfl (q := (RX9, TX9, 22)) rfl [.int (1 : Int32)]) rfl rfl hl.1 rfl (lv_room (Nat.le_of_ble_eq_true rfl)) dX9_commands_102 ⟨Nat.le_of_ble_eq_true rfl, Nat.le_of_ble_eq_true rfl⟩) (fun H locs hW hS => ?_)
      have hm := hm0
      clear hm0 hc_36
      exact rc_eiret hx hb hr hlocks hW hS (Nat.le_of_ble_eq_true rfl) (Nat.le_of_ble_eq_true rfl) hm dX9_commands_105
set_option maxHeartbeats 4000000 in
set_option maxRecDepth 100000 in
theorem k_X9_faultPosition (l : Launch) {Y : rc_Y} {sh : Nat → Nat} {rf : rc_F} (hT : rc_T Y sh rf) (a0 : Nat) (h0 : sh a0 = 10) (sz : Nat) (σ σ' : rc_S) (r : Int32) (hm : f_X9_faultPosition rf a0 σ = some (r, σ')) : Met l yX9_faultPosition (Cond.code yX9_faultPosition cX9_faultPosition 1 (some .int) :: rc_big) ({ frames := 0, cells := 0, slots := 0, locals := 0 } : Room) (rc_P Y sh rf σ sz [.ref a0]) (va_Qi (fun (r' : Int32) (_ : Unit) => r' = r) (fun _ t => rc_W Y sh rf σ' t.heap) (rc_A sh sz)) 0 0 (rc_A sh sz) := by
  refine Met.ofW (cc := cX9_faultPosition) (maxL := 1) (ret := (some .int)) (by decide +kernel) rfl ?_
  intro p e s m args below meth c s₁ B hml hv
  obtain ⟨rfl, hsz, hW, hK, hE⟩ := hv
  have hx := B.exec
  have hb := B.bytes
  have hr := B.returns
  have hts : ∀ w ∈ rc_big, w.before _ s = true := fun w h => atoms_spec (ws := Cond.code yX9_faultPosition cX9_faultPosition 1 (some .int) :: rc_big) B.pre w (List.mem_cons_of_mem _ h)
  have hown : s.vm.findClass RX9 = some m.cls := findClass_of_methodNamed B.named
  have hlocks := B.notSynchronized
  clear B
  subst hsz
  have hS : va_S (rc_A sh s.heap.size) s.heap s.heap [] := va_S.rf
  have hl := lv_entry ([.ref a0]) (n := 1) (Nat.le_of_ble_eq_true rfl)
  rw [lg_entry_eq]
  generalize (lg_sl ([.ref a0]) ++ List.replicate (1 - (lg_sl ([.ref a0])).length) Slot.unset).toArray = ls at hl ⊢
  have hl : lv_has ls 1 [(0, .ref a0)] := hl
  unfold f_X9_faultPosition at hm
  refine lv_aload_n hx hb dX9_faultPosition_0 rfl (lv_at hl 0 rfl) ?_
  refine lv_iconst (v := 0) hx hb dX9_faultPosition_1 (by decide) ?_
  refine rp_10_0 hx hb hts hown hK hW hS h0 tw_7_69 dX9_faultPosition_2 (fun σ_1 H locs eσ hW hS => ?_)
  replace hm := rc_lt_at hm eσ
  clear eσ
  refine lv_aload_n hx hb dX9_faultPosition_5 rfl (lv_at hl 0 rfl) ?_
  refine rg_10_12 hx hb hts hown hK hW h0 tw_7_81 dX9_faultPosition_6 ?_
  exact rc_eiret hx hb hr hlocks hW hS (Nat.le_of_ble_eq_true rfl) (Nat.le_of_ble_eq_true rfl) hm dX9_faultPosition_9
set_option maxHeartbeats 4000000 in
set_option maxRecDepth 100000 in
theorem k_X9_reason (l : Launch) {Y : rc_Y} {sh : Nat → Nat} {rf : rc_F} (hT : rc_T Y sh rf) (a0 : Nat) (u1 : Int32) (h0 : sh a0 = 10) (sz : Nat) (σ σ' : rc_S) (r : Int32) (hm : f_X9_reason rf a0 u1 σ = some (r, σ')) : Met l yX9_reason (Cond.code yX9_reason cX9_reason 2 (some .int) :: rc_big) ({ frames := 1, cells := 0, slots := 0, locals := 22 } : Room) (rc_P Y sh rf σ sz [.ref a0, .int u1]) (va_Qi (fun (r' : Int32) (_ : Unit) => r' = r) (fun _ t => rc_W Y sh rf σ' t.heap) (rc_A sh sz)) 0 0 (rc_A sh sz) := by
  refine Met.ofW (cc := cX9_reason) (maxL := 2) (ret := (some .int)) (by decide +kernel) rfl ?_
  intro p e s m args below meth c s₁ B hml hv
  obtain ⟨rfl, hsz, hW, hK, hE⟩ := hv
  have hx := B.exec
  have hb := B.bytes
  have hr := B.returns
  have hts : ∀ w ∈ rc_big, w.before _ s = true := fun w h => atoms_spec (ws := Cond.code yX9_reason cX9_reason 2 (some .int) :: rc_big) B.pre w (List.mem_cons_of_mem _ h)
  have hown : s.vm.findClass RX9 = some m.cls := findClass_of_methodNamed B.named
  have hlocks := B.notSynchronized
  clear B
  subst hsz
  have hS : va_S (rc_A sh s.heap.size) s.heap s.heap [] := va_S.rf
  have hl := lv_entry ([.ref a0, .int u1]) (n := 2) (Nat.le_of_ble_eq_true rfl)
  rw [lg_entry_eq]
  generalize (lg_sl ([.ref a0, .int u1]) ++ List.replicate (2 - (lg_sl ([.ref a0, .int u1])).length) Slot.unset).toArray = ls at hl ⊢
  have hl : lv_has ls 2 [(0, .ref a0), (1, .int u1)] := hl
  unfold f_X9_reason at hm
  refine lv_aload_n hx hb dX9_reason_0 rfl (lv_at hl 0 rfl) ?_
  refine lv_iload_n hx hb dX9_reason_1 rfl (lv_at hl 1 rfl) ?_
  refine lv_iconst (v := 0) hx hb dX9_reason_2 (by decide) ?_
  refine lv_iconst (v := 2) hx hb dX9_reason_3 (by decide) ?_
  obtain ⟨w_1, σ_1, hc_1, hm0⟩ := rc_bd_inv hm
  clear hm
  refine rc_ci hS (va_runS (As := [.int u1, .int (0 : Int32), .int (2 : Int32)]) (rest := [.ref a0]) ⟨hx, hb, hml, hown, hts⟩ (k_X9_in l hT u1 (0 : Int32) (2 : Int32)  s.heap.size _ _ _ hc_1) (va_cwS 3 hts (rc_gS tw_7_152 tw_7_153 tw_1_14 tw_7_154) rfl rfl rfl (by decide +kernel) ⟨Nat.le_of_ble_eq_true rfl, Nat.le_of_ble_eq_true rfl⟩) (rc_preS hT hW hK hE hS [.int u1, .int (0 : Int32), .int (2 : Int32)]) rfl rfl hl.1 rfl (lv_room (Nat.le_of_ble_eq_true rfl)) dX9_reason_4 ⟨Nat.le_of_ble_eq_true rfl, Nat.le_of_ble_eq_true rfl⟩) (fun H locs hW hS => ?_)
  have hm := hm0
  clear hm0 hc_1
  refine lv_if_ne (tgt := 14) hx hb dX9_reason_7 (by decide) (fun c_15 => ?_) (fun c_15 => ?_)
  · replace hm := rc_f hm c_15
    refine lv_aload_n hx hb dX9_reason_14 rfl (lv_at hl 0 rfl) ?_
    refine rg_10_13 hx hb hts hown hK hW h0 tw_7_82 dX9_reason_15 ?_
    refine lv_if_ne (tgt := 25) hx hb dX9_reason_18 (by decide) (fun c_10 => ?_) (fun c_10 => ?_)
    · replace hm := rc_f hm c_10
      refine lv_iconst (v := 0) hx hb dX9_reason_25 (by decide) ?_
      refine rp_10_0 hx hb hts hown hK hW hS h0 tw_7_69 dX9_reason_26 (fun σ_2 H locs eσ hW hS => ?_)
      replace hm := rc_lt_at hm eσ
      clear eσ
      refine lv_aload_n hx hb dX9_reason_29 rfl (lv_at hl 0 rfl) ?_
      refine rg_10_0 hx hb hts hown hK hW h0 tw_7_69 dX9_reason_30 ?_
      refine lv_if_le (tgt := 40) hx hb dX9_reason_33 (by decide) (fun c_5 => ?_) (fun c_5 => ?_)
      · replace hm := rc_t hm c_5
        refine lv_iload_n hx hb dX9_reason_40 rfl (lv_at hl 1 rfl) ?_
        refine lv_if_ne (tgt := 51) hx hb dX9_reason_41 (by decide) (fun c_4 => ?_) (fun c_4 => ?_)
        · replace hm := rc_f hm c_4
          refine lv_iload_n hx hb dX9_reason_51 rfl (lv_at hl 1 rfl) ?_
          refine lv_iconst (v := 1) hx hb dX9_reason_52 (by decide) ?_
          refine lv_icmp_ne (tgt := 63) hx hb dX9_reason_53 (by decide) (fun c_3 => ?_) (fun c_3 => ?_)
          · replace hm := rc_f hm c_3
            refine lv_aload_n hx hb dX9_reason_63 rfl (lv_at hl 0 rfl) ?_
            refine rg_10_15 hx hb hts hown hK hW h0 tw_7_84 dX9_reason_64 ?_
            exact rc_eiret hx hb hr hlocks hW hS (Nat.le_of_ble_eq_true rfl) (Nat.le_of_ble_eq_true rfl) hm dX9_reason_67
          · replace hm := rc_t hm c_3
            refine lv_aload_n hx hb dX9_reason_56 rfl (lv_at hl 0 rfl) ?_
            refine rg_10_14 hx hb hts hown hK hW h0 tw_7_83 dX9_reason_57 ?_
            refine lv_goto (tgt := 67) hx hb dX9_reason_60 (by decide) ?_
            exact rc_eiret hx hb hr hlocks hW hS (Nat.le_of_ble_eq_true rfl) (Nat.le_of_ble_eq_true rfl) hm dX9_reason_67
        · replace hm := rc_t hm c_4
          refine lv_aload_n hx hb dX9_reason_44 rfl (lv_at hl 0 rfl) ?_
          refine rg_10_13 hx hb hts hown hK hW h0 tw_7_82 dX9_reason_45 ?_
          refine lv_goto (tgt := 67) hx hb dX9_reason_48 (by decide) ?_
          exact rc_eiret hx hb hr hlocks hW hS (Nat.le_of_ble_eq_true rfl) (Nat.le_of_ble_eq_true rfl) hm dX9_reason_67
      · replace hm := rc_f hm c_5
        refine lv_iconst (v := 0) hx hb dX9_reason_36 (by decide) ?_
        refine lv_goto (tgt := 67) hx hb dX9_reason_37 (by decide) ?_
        exact rc_eiret hx hb hr hlocks hW hS (Nat.le_of_ble_eq_true rfl) (Nat.le_of_ble_eq_true rfl) hm dX9_reason_67
    · replace hm := rc_t hm c_10
      refine lv_iconst (v := 2) hx hb dX9_reason_21 (by decide) ?_
      refine lv_goto (tgt := 26) hx hb dX9_reason_22 (by decide) ?_
      refine rp_10_0 hx hb hts hown hK hW hS h0 tw_7_69 dX9_reason_26 (fun σ_6 H locs eσ hW hS => ?_)
      replace hm := rc_lt_at hm eσ
      clear eσ
      refine lv_aload_n hx hb dX9_reason_29 rfl (lv_at hl 0 rfl) ?_
      refine rg_10_0 hx hb hts hown hK hW h0 tw_7_69 dX9_reason_30 ?_
      refine lv_if_le (tgt := 40) hx hb dX9_reason_33 (by decide) (fun c_9 => ?_) (fun c_9 => ?_)
      · replace hm := rc_t hm c_9
        refine lv_iload_n hx hb dX9_reason_40 rfl (lv_at hl 1 rfl) ?_
        refine lv_if_ne (tgt := 51) hx hb dX9_reason_41 (by decide) (fun c_8 => ?_) (fun c_8 => ?_)
        · replace hm := rc_f hm c_8
          refine lv_iload_n hx hb dX9_reason_51 rfl (lv_at hl 1 rfl) ?_
          refine lv_iconst (v := 1) hx hb dX9_reason_52 (by decide) ?_
          refine lv_icmp_ne (tgt := 63) hx hb dX9_reason_53 (by decide) (fun c_7 => ?_) (fun c_7 => ?_)
          · replace hm := rc_f hm c_7
            refine lv_aload_n hx hb dX9_reason_63 rfl (lv_at hl 0 rfl) ?_
            refine rg_10_15 hx hb hts hown hK hW h0 tw_7_84 dX9_reason_64 ?_
            exact rc_eiret hx hb hr hlocks hW hS (Nat.le_of_ble_eq_true rfl) (Nat.le_of_ble_eq_true rfl) hm dX9_reason_67
          · replace hm := rc_t hm c_7
            refine lv_aload_n hx hb dX9_reason_56 rfl (lv_at hl 0 rfl) ?_
            refine rg_10_14 hx hb hts hown hK hW h0 tw_7_83 dX9_reason_57 ?_
            refine lv_goto (tgt := 67) hx hb dX9_reason_60 (by decide) ?_
            exact rc_eiret hx hb hr hlocks hW hS (Nat.le_of_ble_eq_true rfl) (Nat.le_of_ble_eq_true rfl) hm dX9_reason_67
        · replace hm := rc_t hm c_8
          refine lv_aload_n hx hb dX9_reason_44 rfl (lv_at hl 0 rfl) ?_
          refine rg_10_13 hx hb hts hown hK hW h0 tw_7_82 dX9_reason_45 ?_
          refine lv_goto (tgt := 67) hx hb dX9_reason_48 (by decide) ?_
          exact rc_eiret hx hb hr hlocks hW hS (Nat.le_of_ble_eq_true rfl) (Nat.le_of_ble_eq_true rfl) hm dX9_reason_67
      · replace hm := rc_f hm c_9
        refine lv_iconst (v := 0) hx hb dX9_reason_36 (by decide) ?_
        refine lv_goto (tgt := 67) hx hb dX9_reason_37 (by decide) ?_
        exact rc_eiret hx hb hr hlocks hW hS (Nat.le_of_ble_eq_true rfl) (Nat.le_of_ble_eq_true rfl) hm dX9_reason_67
  · replace hm := rc_t hm c_15
    refine lv_iconst (v := 1) hx hb dX9_reason_10 (by decide) ?_
    refine lv_goto (tgt := 26) hx hb dX9_reason_11 (by decide) ?_
    refine rp_10_0 hx hb hts hown hK hW hS h0 tw_7_69 dX9_reason_26 (fun σ_11 H locs eσ hW hS => ?_)
    replace hm := rc_lt_at hm eσ
    clear eσ
    refine lv_aload_n hx hb dX9_reason_29 rfl (lv_at hl 0 rfl) ?_
    refine rg_10_0 hx hb hts hown hK hW h0 tw_7_69 dX9_reason_30 ?_
    refine lv_if_le (tgt := 40) hx hb dX9_reason_33 (by decide) (fun c_14 => ?_) (fun c_14 => ?_)
    · replace hm := rc_t hm c_14
      refine lv_iload_n hx hb dX9_reason_40 rfl (lv_at hl 1 rfl) ?_
      refine lv_if_ne (tgt := 51) hx hb dX9_reason_41 (by decide) (fun c_13 => ?_) (fun c_13 => ?_)
      · replace hm := rc_f hm c_13
        refine lv_iload_n hx hb dX9_reason_51 rfl (lv_at hl 1 rfl) ?_
        refine lv_iconst (v := 1) hx hb dX9_reason_52 (by decide) ?_
        refine lv_icmp_ne (tgt := 63) hx hb dX9_reason_53 (by decide) (fun c_12 => ?_) (fun c_12 => ?_)
        · replace hm := rc_f hm c_12
          refine lv_aload_n hx hb dX9_reason_63 rfl (lv_at hl 0 rfl) ?_
          refine rg_10_15 hx hb hts hown hK hW h0 tw_7_84 dX9_reason_64 ?_
          exact rc_eiret hx hb hr hlocks hW hS (Nat.le_of_ble_eq_true rfl) (Nat.le_of_ble_eq_true rfl) hm dX9_reason_67
        · replace hm := rc_t hm c_12
          refine lv_aload_n hx hb dX9_reason_56 rfl (lv_at hl 0 rfl) ?_
          refine rg_10_14 hx hb hts hown hK hW h0 tw_7_83 dX9_reason_57 ?_
          refine lv_goto (tgt := 67) hx hb dX9_reason_60 (by decide) ?_
          exact rc_eiret hx hb hr hlocks hW hS (Nat.le_of_ble_eq_true rfl) (Nat.le_of_ble_eq_true rfl) hm dX9_reason_67
      · replace hm := rc_t hm c_13
        refine lv_aload_n hx hb dX9_reason_44 rfl (lv_at hl 0 rfl) ?_
        refine rg_10_13 hx hb hts hown hK hW h0 tw_7_82 dX9_reason_45 ?_
        refine lv_goto (tgt := 67) hx hb dX9_reason_48 (by decide) ?_
        exact rc_eiret hx hb hr hlocks hW hS (Nat.le_of_ble_eq_true rfl) (Nat.le_of_ble_eq_true rfl) hm dX9_reason_67
    · replace hm := rc_f hm c_14
      refine lv_iconst (v := 0) hx hb dX9_reason_36 (by decide) ?_
      refine lv_goto (tgt := 67) hx hb dX9_reason_37 (by decide) ?_
      exact rc_eiret hx hb hr hlocks hW hS (Nat.le_of_ble_eq_true rfl) (Nat.le_of_ble_eq_true rfl) hm dX9_reason_67
set_option maxHeartbeats 4000000 in
set_option maxRecDepth 100000 in
theorem k_X9_writes (l : Launch) {Y : rc_Y} {sh : Nat → Nat} {rf : rc_F} (hT : rc_T Y sh rf) (a0 : Nat) (u1 : Int32) (h0 : sh a0 = 10) (sz : Nat) (σ σ' : rc_S) (r : Unit) (hm : f_X9_writes rf a0 u1 σ = some (r, σ')) : Met l yX9_writes (Cond.code yX9_writes cX9_writes 2 none :: rc_big) ({ frames := 0, cells := 0, slots := 0, locals := 0 } : Room) (rc_P Y sh rf σ sz [.ref a0, .int u1]) (va_Qv (fun (_ : Unit) => True) (fun _ t => rc_W Y sh rf σ' t.heap) (rc_A sh sz)) 0 0 (rc_A sh sz) := by
  refine Met.ofW (cc := cX9_writes) (maxL := 2) (ret := none) (by decide +kernel) rfl ?_
  intro p e s m args below meth c s₁ B hml hv
  obtain ⟨rfl, hsz, hW, hK, hE⟩ := hv
  have hx := B.exec
  have hb := B.bytes
  have hr := B.returns
  have hts : ∀ w ∈ rc_big, w.before _ s = true := fun w h => atoms_spec (ws := Cond.code yX9_writes cX9_writes 2 none :: rc_big) B.pre w (List.mem_cons_of_mem _ h)
  have hown : s.vm.findClass RX9 = some m.cls := findClass_of_methodNamed B.named
  have hlocks := B.notSynchronized
  clear B
  subst hsz
  have hS : va_S (rc_A sh s.heap.size) s.heap s.heap [] := va_S.rf
  have hl := lv_entry ([.ref a0, .int u1]) (n := 2) (Nat.le_of_ble_eq_true rfl)
  rw [lg_entry_eq]
  generalize (lg_sl ([.ref a0, .int u1]) ++ List.replicate (2 - (lg_sl ([.ref a0, .int u1])).length) Slot.unset).toArray = ls at hl ⊢
  have hl : lv_has ls 2 [(0, .ref a0), (1, .int u1)] := hl
  unfold f_X9_writes at hm
  refine lv_aload_n hx hb dX9_writes_0 rfl (lv_at hl 0 rfl) ?_
  refine rg_10_9 hx hb hts hown hK hW h0 tw_7_78 dX9_writes_1 ?_
  refine lv_aload_n hx hb dX9_writes_4 rfl (lv_at hl 0 rfl) ?_
  refine rg_10_11 hx hb hts hown hK hW h0 tw_7_80 dX9_writes_5 ?_
  refine lv_iload_n hx hb dX9_writes_8 rfl (lv_at hl 1 rfl) ?_
  have hi_1 := (rc_ix hm).1
  replace hm := (rc_ix hm).2
  refine rc_iastj (j := (σ a0 11).toNatClampNeg) hx hb hK hW hS (rc_t_10_9 hT h0) (by decide) (fun _ => rfl) hi_1 rfl dX9_writes_9 (fun σ_2 H locs eσ hW hS => ?_)
  replace hm := rc_lt_at hm eσ
  clear eσ
  refine lv_aload_n hx hb dX9_writes_10 rfl (lv_at hl 0 rfl) ?_
  refine lv_dup hx hb dX9_writes_11 rfl ?_
  refine rg_10_11 hx hb hts hown hK hW h0 tw_7_80 dX9_writes_12 ?_
  refine lv_iconst (v := 1) hx hb dX9_writes_15 (by decide) ?_
  refine lv_iadd hx hb dX9_writes_16 ?_
  refine rp_10_11 hx hb hts hown hK hW hS h0 tw_7_80 dX9_writes_17 (fun σ_3 H locs eσ hW hS => ?_)
  replace hm := rc_lt_at hm eσ
  clear eσ
  exact rc_evret hx hb hr hlocks hW hS (Nat.le_of_ble_eq_true rfl) (Nat.le_of_ble_eq_true rfl) hm dX9_writes_20
set_option maxHeartbeats 4000000 in
set_option maxRecDepth 100000 in
theorem k_X9_writesNumber (l : Launch) {Y : rc_Y} {sh : Nat → Nat} {rf : rc_F} (hT : rc_T Y sh rf) (a0 : Nat) (u1 : Int32) (h0 : sh a0 = 10) (sz : Nat) (σ σ' : rc_S) (r : Unit) (hm : f_X9_writesNumber rf a0 u1 σ = some (r, σ')) : Met l yX9_writesNumber (Cond.code yX9_writesNumber cX9_writesNumber 2 none :: rc_big) ({ frames := 1, cells := 0, slots := 0, locals := 21 } : Room) (rc_P Y sh rf σ sz [.ref a0, .int u1]) (va_Qv (fun (_ : Unit) => True) (fun _ t => rc_W Y sh rf σ' t.heap) (rc_A sh sz)) 0 0 (rc_A sh sz) := by
  refine Met.ofW (cc := cX9_writesNumber) (maxL := 2) (ret := none) (by decide +kernel) rfl ?_
  intro p e s m args below meth c s₁ B hml hv
  obtain ⟨rfl, hsz, hW, hK, hE⟩ := hv
  have hx := B.exec
  have hb := B.bytes
  have hr := B.returns
  have hts : ∀ w ∈ rc_big, w.before _ s = true := fun w h => atoms_spec (ws := Cond.code yX9_writesNumber cX9_writesNumber 2 none :: rc_big) B.pre w (List.mem_cons_of_mem _ h)
  have hown : s.vm.findClass RX9 = some m.cls := findClass_of_methodNamed B.named
  have hlocks := B.notSynchronized
  clear B
  subst hsz
  have hS : va_S (rc_A sh s.heap.size) s.heap s.heap [] := va_S.rf
  have hl := lv_entry ([.ref a0, .int u1]) (n := 2) (Nat.le_of_ble_eq_true rfl)
  rw [lg_entry_eq]
  generalize (lg_sl ([.ref a0, .int u1]) ++ List.replicate (2 - (lg_sl ([.ref a0, .int u1])).length) Slot.unset).toArray = ls at hl ⊢
  have hl : lv_has ls 2 [(0, .ref a0), (1, .int u1)] := hl
  unfold f_X9_writesNumber at hm
  refine lv_iload_n hx hb dX9_writesNumber_0 rfl (lv_at hl 1 rfl) ?_
  refine lv_sipush (v := 999) hx hb dX9_writesNumber_1 (by decide) ?_
  refine lv_icmp_le (tgt := 19) hx hb dX9_writesNumber_4 (by decide) (fun c_22 => ?_) (fun c_22 => ?_)
  · replace hm := rc_t hm c_22
    refine lv_iload_n hx hb dX9_writesNumber_19 rfl (lv_at hl 1 rfl) ?_
    refine lv_bipush (v := 99) hx hb dX9_writesNumber_20 (by decide) ?_
    refine lv_icmp_le (tgt := 39) hx hb dX9_writesNumber_22 (by decide) (fun c_10 => ?_) (fun c_10 => ?_)
    · replace hm := rc_t hm c_10
      refine lv_iload_n hx hb dX9_writesNumber_39 rfl (lv_at hl 1 rfl) ?_
      refine lv_bipush (v := 9) hx hb dX9_writesNumber_40 (by decide) ?_
      refine lv_icmp_le (tgt := 59) hx hb dX9_writesNumber_42 (by decide) (fun c_4 => ?_) (fun c_4 => ?_)
      · replace hm := rc_t hm c_4
        refine lv_aload_n hx hb dX9_writesNumber_59 rfl (lv_at hl 0 rfl) ?_
        refine lv_bipush (v := 48) hx hb dX9_writesNumber_60 (by decide) ?_
        refine lv_iload_n hx hb dX9_writesNumber_62 rfl (lv_at hl 1 rfl) ?_
        refine lv_bipush (v := 10) hx hb dX9_writesNumber_63 (by decide) ?_
        refine lv_irem hx hb dX9_writesNumber_65 (by decide) ?_
        refine lv_iadd hx hb dX9_writesNumber_66 ?_
        obtain ⟨w_1, σ_1, hc_1, hm0⟩ := rc_bd_inv hm
        clear hm
        refine rc_cv hS (va_runV (As := [.int ((48 : Int32) + (u1 - u1 / (10 : Int32) * (10 : Int32)))]) (rest := []) ⟨hx, hb, hml, hown, hts⟩ (k_X9_writes l hT a0 ((48 : Int32) + (u1 - u1 / (10 : Int32) * (10 : Int32))) h0 s.heap.size _ _ _ hc_1) (cwV 1 hts (rc_gV tw_8_193 tw_8_195 tw_p_56 tw_1_14 tw_8_196) rfl rfl rfl (by decide +kernel) ⟨Nat.le_of_ble_eq_true rfl, Nat.le_of_ble_eq_true rfl⟩) (rc_preV hT hW hK hE hS h0 (by decide) rfl (q := (RX9, TX9, 22)) rfl [.int ((48 : Int32) + (u1 - u1 / (10 : Int32) * (10 : Int32)))]) rfl rfl hl.1 rfl (lv_room (Nat.le_of_ble_eq_true rfl)) dX9_writesNumber_67 ⟨Nat.le_of_ble_eq_true rfl, Nat.le_of_ble_eq_true rfl⟩) (fun H locs hW hS => ?_)
        have hm := hm0
        clear hm0 hc_1
        exact rc_evret hx hb hr hlocks hW hS (Nat.le_of_ble_eq_true rfl) (Nat.le_of_ble_eq_true rfl) hm dX9_writesNumber_70
      · replace hm := rc_f hm c_4
        refine lv_aload_n hx hb dX9_writesNumber_45 rfl (lv_at hl 0 rfl) ?_
        refine lv_bipush (v := 48) hx hb dX9_writesNumber_46 (by decide) ?_
        refine lv_iload_n hx hb dX9_writesNumber_48 rfl (lv_at hl 1 rfl) ?_
        refine lv_bipush (v := 10) hx hb dX9_writesNumber_49 (by decide) ?_
        refine lv_idiv hx hb dX9_writesNumber_51 (by decide) ?_
        refine lv_bipush (v := 10) hx hb dX9_writesNumber_52 (by decide) ?_
        refine lv_irem hx hb dX9_writesNumber_54 (by decide) ?_
        refine lv_iadd hx hb dX9_writesNumber_55 ?_
        obtain ⟨w_2, σ_2, hc_2, hm0⟩ := rc_bd_inv hm
        clear hm
        refine rc_cv hS (va_runV (As := [.int ((48 : Int32) + ((u1 / (10 : Int32)) - (u1 / (10 : Int32)) / (10 : Int32) * (10 : Int32)))]) (rest := []) ⟨hx, hb, hml, hown, hts⟩ (k_X9_writes l hT a0 ((48 : Int32) + ((u1 / (10 : Int32)) - (u1 / (10 : Int32)) / (10 : Int32) * (10 : Int32))) h0 s.heap.size _ _ _ hc_2) (cwV 1 hts (rc_gV tw_8_193 tw_8_195 tw_p_56 tw_1_14 tw_8_196) rfl rfl rfl (by decide +kernel) ⟨Nat.le_of_ble_eq_true rfl, Nat.le_of_ble_eq_true rfl⟩) (rc_preV hT hW hK hE hS h0 (by decide) rfl (q := (RX9, TX9, 22)) rfl [.int ((48 : Int32) + ((u1 / (10 : Int32)) - (u1 / (10 : Int32)) / (10 : Int32) * (10 : Int32)))]) rfl rfl hl.1 rfl (lv_room (Nat.le_of_ble_eq_true rfl)) dX9_writesNumber_56 ⟨Nat.le_of_ble_eq_true rfl, Nat.le_of_ble_eq_true rfl⟩) (fun H locs hW hS => ?_)
        have hm := hm0
        clear hm0 hc_2
        refine lv_aload_n hx hb dX9_writesNumber_59 rfl (lv_at hl 0 rfl) ?_
        refine lv_bipush (v := 48) hx hb dX9_writesNumber_60 (by decide) ?_
        refine lv_iload_n hx hb dX9_writesNumber_62 rfl (lv_at hl 1 rfl) ?_
        refine lv_bipush (v := 10) hx hb dX9_writesNumber_63 (by decide) ?_
        refine lv_irem hx hb dX9_writesNumber_65 (by decide) ?_
        refine lv_iadd hx hb dX9_writesNumber_66 ?_
        obtain ⟨w_3, σ_3, hc_3, hm0⟩ := rc_bd_inv hm
        clear hm
        refine rc_cv hS (va_runV (As := [.int ((48 : Int32) + (u1 - u1 / (10 : Int32) * (10 : Int32)))]) (rest := []) ⟨hx, hb, hml, hown, hts⟩ (k_X9_writes l hT a0 ((48 : Int32) + (u1 - u1 / (10 : Int32) * (10 : Int32))) h0 H.size _ _ _ hc_3) (cwV 1 hts (rc_gV tw_8_193 tw_8_195 tw_p_56 tw_1_14 tw_8_196) rfl rfl rfl (by decide +kernel) ⟨Nat.le_of_ble_eq_true rfl, Nat.le_of_ble_eq_true rfl⟩) (rc_preV hT hW hK hE hS h0 (by decide) rfl (q := (RX9, TX9, 22)) rfl [.int ((48 : Int32) + (u1 - u1 / (10 : Int32) * (10 : Int32)))]) rfl rfl hl.1 rfl (lv_room (Nat.le_of_ble_eq_true rfl)) dX9_writesNumber_67 ⟨Nat.le_of_ble_eq_true rfl, Nat.le_of_ble_eq_true rfl⟩) (fun H locs hW hS => ?_)
        have hm := hm0
        clear hm0 hc_3
        exact rc_evret hx hb hr hlocks hW hS (Nat.le_of_ble_eq_true rfl) (Nat.le_of_ble_eq_true rfl) hm dX9_writesNumber_70
    · replace hm := rc_f hm c_10
      refine lv_aload_n hx hb dX9_writesNumber_25 rfl (lv_at hl 0 rfl) ?_
      refine lv_bipush (v := 48) hx hb dX9_writesNumber_26 (by decide) ?_
      refine lv_iload_n hx hb dX9_writesNumber_28 rfl (lv_at hl 1 rfl) ?_
      refine lv_bipush (v := 100) hx hb dX9_writesNumber_29 (by decide) ?_
      refine lv_idiv hx hb dX9_writesNumber_31 (by decide) ?_
      refine lv_bipush (v := 10) hx hb dX9_writesNumber_32 (by decide) ?_
      refine lv_irem hx hb dX9_writesNumber_34 (by decide) ?_
      refine lv_iadd hx hb dX9_writesNumber_35 ?_
      obtain ⟨w_5, σ_5, hc_5, hm0⟩ := rc_bd_inv hm
      clear hm
      refine rc_cv hS (va_runV (As := [.int ((48 : Int32) + ((u1 / (100 : Int32)) - (u1 / (100 : Int32)) / (10 : Int32) * (10 : Int32)))]) (rest := []) ⟨hx, hb, hml, hown, hts⟩ (k_X9_writes l hT a0 ((48 : Int32) + ((u1 / (100 : Int32)) - (u1 / (100 : Int32)) / (10 : Int32) * (10 : Int32))) h0 s.heap.size _ _ _ hc_5) (cwV 1 hts (rc_gV tw_8_193 tw_8_195 tw_p_56 tw_1_14 tw_8_196) rfl rfl rfl (by decide +kernel) ⟨Nat.le_of_ble_eq_true rfl, Nat.le_of_ble_eq_true rfl⟩) (rc_preV hT hW hK hE hS h0 (by decide) rfl (q := (RX9, TX9, 22)) rfl [.int ((48 : Int32) + ((u1 / (100 : Int32)) - (u1 / (100 : Int32)) / (10 : Int32) * (10 : Int32)))]) rfl rfl hl.1 rfl (lv_room (Nat.le_of_ble_eq_true rfl)) dX9_writesNumber_36 ⟨Nat.le_of_ble_eq_true rfl, Nat.le_of_ble_eq_true rfl⟩) (fun H locs hW hS => ?_)
      have hm := hm0
      clear hm0 hc_5
      refine lv_iload_n hx hb dX9_writesNumber_39 rfl (lv_at hl 1 rfl) ?_
      refine lv_bipush (v := 9) hx hb dX9_writesNumber_40 (by decide) ?_
      refine lv_icmp_le (tgt := 59) hx hb dX9_writesNumber_42 (by decide) (fun c_9 => ?_) (fun c_9 => ?_)
      · replace hm := rc_t hm c_9
        refine lv_aload_n hx hb dX9_writesNumber_59 rfl (lv_at hl 0 rfl) ?_
        refine lv_bipush (v := 48) hx hb dX9_writesNumber_60 (by decide) ?_
        refine lv_iload_n hx hb dX9_writesNumber_62 rfl (lv_at hl 1 rfl) ?_
        refine lv_bipush (v := 10) hx hb dX9_writesNumber_63 (by decide) ?_
        refine lv_irem hx hb dX9_writesNumber_65 (by decide) ?_
        refine lv_iadd hx hb dX9_writesNumber_66 ?_
        obtain ⟨w_6, σ_6, hc_6, hm0⟩ := rc_bd_inv hm
        clear hm
        refine rc_cv hS (va_runV (As := [.int ((48 : Int32) + (u1 - u1 / (10 : Int32) * (10 : Int32)))]) (rest := []) ⟨hx, hb, hml, hown, hts⟩ (k_X9_writes l hT a0 ((48 : Int32) + (u1 - u1 / (10 : Int32) * (10 : Int32))) h0 H.size _ _ _ hc_6) (cwV 1 hts (rc_gV tw_8_193 tw_8_195 tw_p_56 tw_1_14 tw_8_196) rfl rfl rfl (by decide +kernel) ⟨Nat.le_of_ble_eq_true rfl, Nat.le_of_ble_eq_true rfl⟩) (rc_preV hT hW hK hE hS h0 (by decide) rfl (q := (RX9, TX9, 22)) rfl [.int ((48 : Int32) + (u1 - u1 / (10 : Int32) * (10 : Int32)))]) rfl rfl hl.1 rfl (lv_room (Nat.le_of_ble_eq_true rfl)) dX9_writesNumber_67 ⟨Nat.le_of_ble_eq_true rfl, Nat.le_of_ble_eq_true rfl⟩) (fun H locs hW hS => ?_)
        have hm := hm0
        clear hm0 hc_6
        exact rc_evret hx hb hr hlocks hW hS (Nat.le_of_ble_eq_true rfl) (Nat.le_of_ble_eq_true rfl) hm dX9_writesNumber_70
      · replace hm := rc_f hm c_9
        refine lv_aload_n hx hb dX9_writesNumber_45 rfl (lv_at hl 0 rfl) ?_
        refine lv_bipush (v := 48) hx hb dX9_writesNumber_46 (by decide) ?_
        refine lv_iload_n hx hb dX9_writesNumber_48 rfl (lv_at hl 1 rfl) ?_
        refine lv_bipush (v := 10) hx hb dX9_writesNumber_49 (by decide) ?_
        refine lv_idiv hx hb dX9_writesNumber_51 (by decide) ?_
        refine lv_bipush (v := 10) hx hb dX9_writesNumber_52 (by decide) ?_
        refine lv_irem hx hb dX9_writesNumber_54 (by decide) ?_
        refine lv_iadd hx hb dX9_writesNumber_55 ?_
        obtain ⟨w_7, σ_7, hc_7, hm0⟩ := rc_bd_inv hm
        clear hm
        refine rc_cv hS (va_runV (As := [.int ((48 : Int32) + ((u1 / (10 : Int32)) - (u1 / (10 : Int32)) / (10 : Int32) * (10 : Int32)))]) (rest := []) ⟨hx, hb, hml, hown, hts⟩ (k_X9_writes l hT a0 ((48 : Int32) + ((u1 / (10 : Int32)) - (u1 / (10 : Int32)) / (10 : Int32) * (10 : Int32))) h0 H.size _ _ _ hc_7) (cwV 1 hts (rc_gV tw_8_193 tw_8_195 tw_p_56 tw_1_14 tw_8_196) rfl rfl rfl (by decide +kernel) ⟨Nat.le_of_ble_eq_true rfl, Nat.le_of_ble_eq_true rfl⟩) (rc_preV hT hW hK hE hS h0 (by decide) rfl (q := (RX9, TX9, 22)) rfl [.int ((48 : Int32) + ((u1 / (10 : Int32)) - (u1 / (10 : Int32)) / (10 : Int32) * (10 : Int32)))]) rfl rfl hl.1 rfl (lv_room (Nat.le_of_ble_eq_true rfl)) dX9_writesNumber_56 ⟨Nat.le_of_ble_eq_true rfl, Nat.le_of_ble_eq_true rfl⟩) (fun H locs hW hS => ?_)
        have hm := hm0
        clear hm0 hc_7
        refine lv_aload_n hx hb dX9_writesNumber_59 rfl (lv_at hl 0 rfl) ?_
        refine lv_bipush (v := 48) hx hb dX9_writesNumber_60 (by decide) ?_
        refine lv_iload_n hx hb dX9_writesNumber_62 rfl (lv_at hl 1 rfl) ?_
        refine lv_bipush (v := 10) hx hb dX9_writesNumber_63 (by decide) ?_
        refine lv_irem hx hb dX9_writesNumber_65 (by decide) ?_
        refine lv_iadd hx hb dX9_writesNumber_66 ?_
        obtain ⟨w_8, σ_8, hc_8, hm0⟩ := rc_bd_inv hm
        clear hm
        refine rc_cv hS (va_runV (As := [.int ((48 : Int32) + (u1 - u1 / (10 : Int32) * (10 : Int32)))]) (rest := []) ⟨hx, hb, hml, hown, hts⟩ (k_X9_writes l hT a0 ((48 : Int32) + (u1 - u1 / (10 : Int32) * (10 : Int32))) h0 H.size _ _ _ hc_8) (cwV 1 hts (rc_gV tw_8_193 tw_8_195 tw_p_56 tw_1_14 tw_8_196) rfl rfl rfl (by decide +kernel) ⟨Nat.le_of_ble_eq_true rfl, Nat.le_of_ble_eq_true rfl⟩) (rc_preV hT hW hK hE hS h0 (by decide) rfl (q := (RX9, TX9, 22)) rfl [.int ((48 : Int32) + (u1 - u1 / (10 : Int32) * (10 : Int32)))]) rfl rfl hl.1 rfl (lv_room (Nat.le_of_ble_eq_true rfl)) dX9_writesNumber_67 ⟨Nat.le_of_ble_eq_true rfl, Nat.le_of_ble_eq_true rfl⟩) (fun H locs hW hS => ?_)
        have hm := hm0
        clear hm0 hc_8
        exact rc_evret hx hb hr hlocks hW hS (Nat.le_of_ble_eq_true rfl) (Nat.le_of_ble_eq_true rfl) hm dX9_writesNumber_70
  · replace hm := rc_f hm c_22
    refine lv_aload_n hx hb dX9_writesNumber_7 rfl (lv_at hl 0 rfl) ?_
    refine lv_bipush (v := 48) hx hb dX9_writesNumber_8 (by decide) ?_
    refine lv_iload_n hx hb dX9_writesNumber_10 rfl (lv_at hl 1 rfl) ?_
    refine lv_sipush (v := 1000) hx hb dX9_writesNumber_11 (by decide) ?_
    refine lv_idiv hx hb dX9_writesNumber_14 (by decide) ?_
    refine lv_iadd hx hb dX9_writesNumber_15 ?_
    obtain ⟨w_11, σ_11, hc_11, hm0⟩ := rc_bd_inv hm
    clear hm
    refine rc_cv hS (va_runV (As := [.int ((48 : Int32) + (u1 / (1000 : Int32)))]) (rest := []) ⟨hx, hb, hml, hown, hts⟩ (k_X9_writes l hT a0 ((48 : Int32) + (u1 / (1000 : Int32))) h0 s.heap.size _ _ _ hc_11) (cwV 1 hts (rc_gV tw_8_193 tw_8_195 tw_p_56 tw_1_14 tw_8_196) rfl rfl rfl (by decide +kernel) ⟨Nat.le_of_ble_eq_true rfl, Nat.le_of_ble_eq_true rfl⟩) (rc_preV hT hW hK hE hS h0 (by decide) rfl (q := (RX9, TX9, 22)) rfl [.int ((48 : Int32) + (u1 / (1000 : Int32)))]) rfl rfl hl.1 rfl (lv_room (Nat.le_of_ble_eq_true rfl)) dX9_writesNumber_16 ⟨Nat.le_of_ble_eq_true rfl, Nat.le_of_ble_eq_true rfl⟩) (fun H locs hW hS => ?_)
    have hm := hm0
    clear hm0 hc_11
    refine lv_iload_n hx hb dX9_writesNumber_19 rfl (lv_at hl 1 rfl) ?_
    refine lv_bipush (v := 99) hx hb dX9_writesNumber_20 (by decide) ?_
    refine lv_icmp_le (tgt := 39) hx hb dX9_writesNumber_22 (by decide) (fun c_21 => ?_) (fun c_21 => ?_)
    · replace hm := rc_t hm c_21
      refine lv_iload_n hx hb dX9_writesNumber_39 rfl (lv_at hl 1 rfl) ?_
      refine lv_bipush (v := 9) hx hb dX9_writesNumber_40 (by decide) ?_
      refine lv_icmp_le (tgt := 59) hx hb dX9_writesNumber_42 (by decide) (fun c_15 => ?_) (fun c_15 => ?_)
      · replace hm := rc_t hm c_15
        refine lv_aload_n hx hb dX9_writesNumber_59 rfl (lv_at hl 0 rfl) ?_
        refine lv_bipush (v := 48) hx hb dX9_writesNumber_60 (by decide) ?_
        refine lv_iload_n hx hb dX9_writesNumber_62 rfl (lv_at hl 1 rfl) ?_
        refine lv_bipush (v := 10) hx hb dX9_writesNumber_63 (by decide) ?_
        refine lv_irem hx hb dX9_writesNumber_65 (by decide) ?_
        refine lv_iadd hx hb dX9_writesNumber_66 ?_
        obtain ⟨w_12, σ_12, hc_12, hm0⟩ := rc_bd_inv hm
        clear hm
        refine rc_cv hS (va_runV (As := [.int ((48 : Int32) + (u1 - u1 / (10 : Int32) * (10 : Int32)))]) (rest := []) ⟨hx, hb, hml, hown, hts⟩ (k_X9_writes l hT a0 ((48 : Int32) + (u1 - u1 / (10 : Int32) * (10 : Int32))) h0 H.size _ _ _ hc_12) (cwV 1 hts (rc_gV tw_8_193 tw_8_195 tw_p_56 tw_1_14 tw_8_196) rfl rfl rfl (by decide +kernel) ⟨Nat.le_of_ble_eq_true rfl, Nat.le_of_ble_eq_true rfl⟩) (rc_preV hT hW hK hE hS h0 (by decide) rfl (q := (RX9, TX9, 22)) rfl [.int ((48 : Int32) + (u1 - u1 / (10 : Int32) * (10 : Int32)))]) rfl rfl hl.1 rfl (lv_room (Nat.le_of_ble_eq_true rfl)) dX9_writesNumber_67 ⟨Nat.le_of_ble_eq_true rfl, Nat.le_of_ble_eq_true rfl⟩) (fun H locs hW hS => ?_)
        have hm := hm0
        clear hm0 hc_12
        exact rc_evret hx hb hr hlocks hW hS (Nat.le_of_ble_eq_true rfl) (Nat.le_of_ble_eq_true rfl) hm dX9_writesNumber_70
      · replace hm := rc_f hm c_15
        refine lv_aload_n hx hb dX9_writesNumber_45 rfl (lv_at hl 0 rfl) ?_
        refine lv_bipush (v := 48) hx hb dX9_writesNumber_46 (by decide) ?_
        refine lv_iload_n hx hb dX9_writesNumber_48 rfl (lv_at hl 1 rfl) ?_
        refine lv_bipush (v := 10) hx hb dX9_writesNumber_49 (by decide) ?_
        refine lv_idiv hx hb dX9_writesNumber_51 (by decide) ?_
        refine lv_bipush (v := 10) hx hb dX9_writesNumber_52 (by decide) ?_
        refine lv_irem hx hb dX9_writesNumber_54 (by decide) ?_
        refine lv_iadd hx hb dX9_writesNumber_55 ?_
        obtain ⟨w_13, σ_13, hc_13, hm0⟩ := rc_bd_inv hm
        clear hm
        refine rc_cv hS (va_runV (As := [.int ((48 : Int32) + ((u1 / (10 : Int32)) - (u1 / (10 : Int32)) / (10 : Int32) * (10 : Int32)))]) (rest := []) ⟨hx, hb, hml, hown, hts⟩ (k_X9_writes l hT a0 ((48 : Int32) + ((u1 / (10 : Int32)) - (u1 / (10 : Int32)) / (10 : Int32) * (10 : Int32))) h0 H.size _ _ _ hc_13) (cwV 1 hts (rc_gV tw_8_193 tw_8_195 tw_p_56 tw_1_14 tw_8_196) rfl rfl rfl (by decide +kernel) ⟨Nat.le_of_ble_eq_true rfl, Nat.le_of_ble_eq_true rfl⟩) (rc_preV hT hW hK hE hS h0 (by decide) rfl (q := (RX9, TX9, 22)) rfl [.int ((48 : Int32) + ((u1 / (10 : Int32)) - (u1 / (10 : Int32)) / (10 : Int32) * (10 : Int32)))]) rfl rfl hl.1 rfl (lv_room (Nat.le_of_ble_eq_true rfl)) dX9_writesNumber_56 ⟨Nat.le_of_ble_eq_true rfl, Nat.le_of_ble_eq_true rfl⟩) (fun H locs hW hS => ?_)
        have hm := hm0
        clear hm0 hc_13
        refine lv_aload_n hx hb dX9_writesNumber_59 rfl (lv_at hl 0 rfl) ?_
        refine lv_bipush (v := 48) hx hb dX9_writesNumber_60 (by decide) ?_
        refine lv_iload_n hx hb dX9_writesNumber_62 rfl (lv_at hl 1 rfl) ?_
        refine lv_bipush (v := 10) hx hb dX9_writesNumber_63 (by decide) ?_
        refine lv_irem hx hb dX9_writesNumber_65 (by decide) ?_
        refine lv_iadd hx hb dX9_writesNumber_66 ?_
        obtain ⟨w_14, σ_14, hc_14, hm0⟩ := rc_bd_inv hm
        clear hm
        refine rc_cv hS (va_runV (As := [.int ((48 : Int32) + (u1 - u1 / (10 : Int32) * (10 : Int32)))]) (rest := []) ⟨hx, hb, hml, hown, hts⟩ (k_X9_writes l hT a0 ((48 : Int32) + (u1 - u1 / (10 : Int32) * (10 : Int32))) h0 H.size _ _ _ hc_14) (cwV 1 hts (rc_gV tw_8_193 tw_8_195 tw_p_56 tw_1_14 tw_8_196) rfl rfl rfl (by decide +kernel) ⟨Nat.le_of_ble_eq_true rfl, Nat.le_of_ble_eq_true rfl⟩) (rc_preV hT hW hK hE hS h0 (by decide) rfl (q := (RX9, TX9, 22)) rfl [.int ((48 : Int32) + (u1 - u1 / (10 : Int32) * (10 : Int32)))]) rfl rfl hl.1 rfl (lv_room (Nat.le_of_ble_eq_true rfl)) dX9_writesNumber_67 ⟨Nat.le_of_ble_eq_true rfl, Nat.le_of_ble_eq_true rfl⟩) (fun H locs hW hS => ?_)
        have hm := hm0
        clear hm0 hc_14
        exact rc_evret hx hb hr hlocks hW hS (Nat.le_of_ble_eq_true rfl) (Nat.le_of_ble_eq_true rfl) hm dX9_writesNumber_70
    · replace hm := rc_f hm c_21
      refine lv_aload_n hx hb dX9_writesNumber_25 rfl (lv_at hl 0 rfl) ?_
      refine lv_bipush (v := 48) hx hb dX9_writesNumber_26 (by decide) ?_
      refine lv_iload_n hx hb dX9_writesNumber_28 rfl (lv_at hl 1 rfl) ?_
      refine lv_bipush (v := 100) hx hb dX9_writesNumber_29 (by decide) ?_
      refine lv_idiv hx hb dX9_writesNumber_31 (by decide) ?_
      refine lv_bipush (v := 10) hx hb dX9_writesNumber_32 (by decide) ?_
      refine lv_irem hx hb dX9_writesNumber_34 (by decide) ?_
      refine lv_iadd hx hb dX9_writesNumber_35 ?_
      obtain ⟨w_16, σ_16, hc_16, hm0⟩ := rc_bd_inv hm
      clear hm
      refine rc_cv hS (va_runV (As := [.int ((48 : Int32) + ((u1 / (100 : Int32)) - (u1 / (100 : Int32)) / (10 : Int32) * (10 : Int32)))]) (rest := []) ⟨hx, hb, hml, hown, hts⟩ (k_X9_writes l hT a0 ((48 : Int32) + ((u1 / (100 : Int32)) - (u1 / (100 : Int32)) / (10 : Int32) * (10 : Int32))) h0 H.size _ _ _ hc_16) (cwV 1 hts (rc_gV tw_8_193 tw_8_195 tw_p_56 tw_1_14 tw_8_196) rfl rfl rfl (by decide +kernel) ⟨Nat.le_of_ble_eq_true rfl, Nat.le_of_ble_eq_true rfl⟩) (rc_preV hT hW hK hE hS h0 (by decide) rfl (q := (RX9, TX9, 22)) rfl [.int ((48 : Int32) + ((u1 / (100 : Int32)) - (u1 / (100 : Int32)) / (10 : Int32) * (10 : Int32)))]) rfl rfl hl.1 rfl (lv_room (Nat.le_of_ble_eq_true rfl)) dX9_writesNumber_36 ⟨Nat.le_of_ble_eq_true rfl, Nat.le_of_ble_eq_true rfl⟩) (fun H locs hW hS => ?_)
      have hm := hm0
      clear hm0 hc_16
      refine lv_iload_n hx hb dX9_writesNumber_39 rfl (lv_at hl 1 rfl) ?_
      refine lv_bipush (v := 9) hx hb dX9_writesNumber_40 (by decide) ?_
      refine lv_icmp_le (tgt := 59) hx hb dX9_writesNumber_42 (by decide) (fun c_20 => ?_) (fun c_20 => ?_)
      · replace hm := rc_t hm c_20
        refine lv_aload_n hx hb dX9_writesNumber_59 rfl (lv_at hl 0 rfl) ?_
        refine lv_bipush (v := 48) hx hb dX9_writesNumber_60 (by decide) ?_
        refine lv_iload_n hx hb dX9_writesNumber_62 rfl (lv_at hl 1 rfl) ?_
        refine lv_bipush (v := 10) hx hb dX9_writesNumber_63 (by decide) ?_
        refine lv_irem hx hb dX9_writesNumber_65 (by decide) ?_
        refine lv_iadd hx hb dX9_writesNumber_66 ?_
        obtain ⟨w_17, σ_17, hc_17, hm0⟩ := rc_bd_inv hm
        clear hm
        refine rc_cv hS (va_runV (As := [.int ((48 : Int32) + (u1 - u1 / (10 : Int32) * (10 : Int32)))]) (rest := []) ⟨hx, hb, hml, hown, hts⟩ (k_X9_writes l hT a0 ((48 : Int32) + (u1 - u1 / (10 : Int32) * (10 : Int32))) h0 H.size _ _ _ hc_17) (cwV 1 hts (rc_gV tw_8_193 tw_8_195 tw_p_56 tw_1_14 tw_8_196) rfl rfl rfl (by decide +kernel) ⟨Nat.le_of_ble_eq_true rfl, Nat.le_of_ble_eq_true rfl⟩) (rc_preV hT hW hK hE hS h0 (by decide) rfl (q := (RX9, TX9, 22)) rfl [.int ((48 : Int32) + (u1 - u1 / (10 : Int32) * (10 : Int32)))]) rfl rfl hl.1 rfl (lv_room (Nat.le_of_ble_eq_true rfl)) dX9_writesNumber_67 ⟨Nat.le_of_ble_eq_true rfl, Nat.le_of_ble_eq_true rfl⟩) (fun H locs hW hS => ?_)
        have hm := hm0
        clear hm0 hc_17
        exact rc_evret hx hb hr hlocks hW hS (Nat.le_of_ble_eq_true rfl) (Nat.le_of_ble_eq_true rfl) hm dX9_writesNumber_70
      · replace hm := rc_f hm c_20
        refine lv_aload_n hx hb dX9_writesNumber_45 rfl (lv_at hl 0 rfl) ?_
        refine lv_bipush (v := 48) hx hb dX9_writesNumber_46 (by decide) ?_
        refine lv_iload_n hx hb dX9_writesNumber_48 rfl (lv_at hl 1 rfl) ?_
        refine lv_bipush (v := 10) hx hb dX9_writesNumber_49 (by decide) ?_
        refine lv_idiv hx hb dX9_writesNumber_51 (by decide) ?_
        refine lv_bipush (v := 10) hx hb dX9_writesNumber_52 (by decide) ?_
        refine lv_irem hx hb dX9_writesNumber_54 (by decide) ?_
        refine lv_iadd hx hb dX9_writesNumber_55 ?_
        obtain ⟨w_18, σ_18, hc_18, hm0⟩ := rc_bd_inv hm
        clear hm
        refine rc_cv hS (va_runV (As := [.int ((48 : Int32) + ((u1 / (10 : Int32)) - (u1 / (10 : Int32)) / (10 : Int32) * (10 : Int32)))]) (rest := []) ⟨hx, hb, hml, hown, hts⟩ (k_X9_writes l hT a0 ((48 : Int32) + ((u1 / (10 : Int32)) - (u1 / (10 : Int32)) / (10 : Int32) * (10 : Int32))) h0 H.size _ _ _ hc_18) (cwV 1 hts (rc_gV tw_8_193 tw_8_195 tw_p_56 tw_1_14 tw_8_196) rfl rfl rfl (by decide +kernel) ⟨Nat.le_of_ble_eq_true rfl, Nat.le_of_ble_eq_true rfl⟩) (rc_preV hT hW hK hE hS h0 (by decide) rfl (q := (RX9, TX9, 22)) rfl [.int ((48 : Int32) + ((u1 / (10 : Int32)) - (u1 / (10 : Int32)) / (10 : Int32) * (10 : Int32)))]) rfl rfl hl.1 rfl (lv_room (Nat.le_of_ble_eq_true rfl)) dX9_writesNumber_56 ⟨Nat.le_of_ble_eq_true rfl, Nat.le_of_ble_eq_true rfl⟩) (fun H locs hW hS => ?_)
        have hm := hm0
        clear hm0 hc_18
        refine lv_aload_n hx hb dX9_writesNumber_59 rfl (lv_at hl 0 rfl) ?_
        refine lv_bipush (v := 48) hx hb dX9_writesNumber_60 (by decide) ?_
        refine lv_iload_n hx hb dX9_writesNumber_62 rfl (lv_at hl 1 rfl) ?_
        refine lv_bipush (v := 10) hx hb dX9_writesNumber_63 (by decide) ?_
        refine lv_irem hx hb dX9_writesNumber_65 (by decide) ?_
        refine lv_iadd hx hb dX9_writesNumber_66 ?_
        obtain ⟨w_19, σ_19, hc_19, hm0⟩ := rc_bd_inv hm
        clear hm
        refine rc_cv hS (va_runV (As := [.int ((48 : Int32) + (u1 - u1 / (10 : Int32) * (10 : Int32)))]) (rest := []) ⟨hx, hb, hml, hown, hts⟩ (k_X9_writes l hT a0 ((48 : Int32) + (u1 - u1 / (10 : Int32) * (10 : Int32))) h0 H.size _ _ _ hc_19) (cwV 1 hts (rc_gV tw_8_193 tw_8_195 tw_p_56 tw_1_14 tw_8_196) rfl rfl rfl (by decide +kernel) ⟨Nat.le_of_ble_eq_true rfl, Nat.le_of_ble_eq_true rfl⟩) (rc_preV hT hW hK hE hS h0 (by decide) rfl (q := (RX9, TX9, 22)) rfl [.int ((48 : Int32) + (u1 - u1 / (10 : Int32) * (10 : Int32)))]) rfl rfl hl.1 rfl (lv_room (Nat.le_of_ble_eq_true rfl)) dX9_writesNumber_67 ⟨Nat.le_of_ble_eq_true rfl, Nat.le_of_ble_eq_true rfl⟩) (fun H locs hW hS => ?_)
        have hm := hm0
        clear hm0 hc_19
        exact rc_evret hx hb hr hlocks hW hS (Nat.le_of_ble_eq_true rfl) (Nat.le_of_ble_eq_true rfl) hm dX9_writesNumber_70
set_option maxHeartbeats 4000000 in
set_option maxRecDepth 100000 in
theorem k_X9_line (l : Launch) {Y : rc_Y} {sh : Nat → Nat} {rf : rc_F} (hT : rc_T Y sh rf) (a0 : Nat) (u1 : Int32) (h0 : sh a0 = 10) (sz : Nat) (σ σ' : rc_S) (r : Int32) (hm : f_X9_line rf a0 u1 σ = some (r, σ')) : Met l yX9_line (Cond.code yX9_line cX9_line 2 (some .int) :: rc_big) ({ frames := 2, cells := 0, slots := 0, locals := 43 } : Room) (rc_P Y sh rf σ sz [.ref a0, .int u1]) (va_Qi (fun (r' : Int32) (_ : Unit) => r' = r) (fun _ t => rc_W Y sh rf σ' t.heap) (rc_A sh sz)) 0 0 (rc_A sh sz) := by
  refine Met.ofW (cc := cX9_line) (maxL := 2) (ret := (some .int)) (by decide +kernel) rfl ?_
  intro p e s m args below meth c s₁ B hml hv
  obtain ⟨rfl, hsz, hW, hK, hE⟩ := hv
  have hx := B.exec
  have hb := B.bytes
  have hr := B.returns
  have hts : ∀ w ∈ rc_big, w.before _ s = true := fun w h => atoms_spec (ws := Cond.code yX9_line cX9_line 2 (some .int) :: rc_big) B.pre w (List.mem_cons_of_mem _ h)
  have hown : s.vm.findClass RX9 = some m.cls := findClass_of_methodNamed B.named
  have hlocks := B.notSynchronized
  clear B
  subst hsz
  have hS : va_S (rc_A sh s.heap.size) s.heap s.heap [] := va_S.rf
  have hl := lv_entry ([.ref a0, .int u1]) (n := 2) (Nat.le_of_ble_eq_true rfl)
  rw [lg_entry_eq]
  generalize (lg_sl ([.ref a0, .int u1]) ++ List.replicate (2 - (lg_sl ([.ref a0, .int u1])).length) Slot.unset).toArray = ls at hl ⊢
  have hl : lv_has ls 2 [(0, .ref a0), (1, .int u1)] := hl
  unfold f_X9_line at hm
  refine lv_aload_n hx hb dX9_line_0 rfl (lv_at hl 0 rfl) ?_
  refine lv_aload_n hx hb dX9_line_1 rfl (lv_at hl 0 rfl) ?_
  refine lv_iload_n hx hb dX9_line_2 rfl (lv_at hl 1 rfl) ?_
  obtain ⟨w_1, σ_1, hc_1, hm0⟩ := rc_bd_inv hm
  clear hm
  refine rc_ci hS (va_runV (As := [.int u1]) (rest := [.ref a0]) ⟨hx, hb, hml, hown, hts⟩ (k_X9_isBarrel l hT a0 u1 h0 s.heap.size _ _ _ hc_1) (cwV 1 hts (rc_gV tw_7_211 tw_7_213 tw_p_30 tw_1_14 tw_7_214) rfl rfl rfl (by decide +kernel) ⟨Nat.le_of_ble_eq_true rfl, Nat.le_of_ble_eq_true rfl⟩) (rc_preV hT hW hK hE hS h0 (by decide) rfl (q := (RX9, TX9, 22)) rfl [.int u1]) rfl rfl hl.1 rfl (lv_room (Nat.le_of_ble_eq_true rfl)) dX9_line_3 ⟨Nat.le_of_ble_eq_true rfl, Nat.le_of_ble_eq_true rfl⟩) (fun H locs hW hS => ?_)
  have hm := hm0
  clear hm0 hc_1
  refine lv_if_eq (tgt := 13) hx hb dX9_line_6 (by decide) (fun c_44 => ?_) (fun c_44 => ?_)
  · replace hm := rc_t hm c_44
    refine lv_iconst (v := 1) hx hb dX9_line_13 (by decide) ?_
    refine rp_10_0 hx hb hts hown hK hW hS h0 tw_7_69 dX9_line_14 (fun σ_2 H locs eσ hW hS => ?_)
    replace hm := rc_lt_at hm eσ
    clear eσ
    refine lv_aload_n hx hb dX9_line_17 rfl (lv_at hl 0 rfl) ?_
    refine rg_10_0 hx hb hts hown hK hW h0 tw_7_69 dX9_line_18 ?_
    refine lv_if_le (tgt := 26) hx hb dX9_line_21 (by decide) (fun c_22 => ?_) (fun c_22 => ?_)
    · replace hm := rc_t hm c_22
      refine lv_aload_n hx hb dX9_line_26 rfl (lv_at hl 0 rfl) ?_
      refine lv_iconst (v := 0) hx hb dX9_line_27 (by decide) ?_
      refine rp_10_11 hx hb hts hown hK hW hS h0 tw_7_80 dX9_line_28 (fun σ_3 H locs eσ hW hS => ?_)
      replace hm := rc_lt_at hm eσ
      clear eσ
      refine lv_aload_n hx hb dX9_line_31 rfl (lv_at hl 0 rfl) ?_
      refine lv_aload_n hx hb dX9_line_32 rfl (lv_at hl 0 rfl) ?_
      refine lv_iload_n hx hb dX9_line_33 rfl (lv_at hl 1 rfl) ?_
      refine lv_iconst (v := 0) hx hb dX9_line_34 (by decide) ?_
      obtain ⟨w_4, σ_4, hc_4, hm0⟩ := rc_bd_inv hm
      clear hm
      refine rc_ci hS (va_runV (As := [.int u1, .int (0 : Int32)]) (rest := [.ref a0]) ⟨hx, hb, hml, hown, hts⟩ (k_X9_of l hT a0 u1 (0 : Int32) h0 H.size _ _ _ hc_4) (cwV 2 hts (rc_gV tw_7_163 tw_7_165 tw_p_20 tw_1_14 tw_7_166) rfl rfl rfl (by decide +kernel) ⟨Nat.le_of_ble_eq_true rfl, Nat.le_of_ble_eq_true rfl⟩) (rc_preV hT hW hK hE hS h0 (by decide) rfl (q := (RX9, TX9, 22)) rfl [.int u1, .int (0 : Int32)]) rfl rfl hl.1 rfl (lv_room (Nat.le_of_ble_eq_true rfl)) dX9_line_35 ⟨Nat.le_of_ble_eq_true rfl, Nat.le_of_ble_eq_true rfl⟩) (fun H locs hW hS => ?_)
      have hm := hm0
      clear hm0 hc_4
      obtain ⟨w_5, σ_5, hc_5, hm0⟩ := rc_bd_inv hm
      clear hm
      refine rc_cv hS (va_runV (As := [.int w_4]) (rest := []) ⟨hx, hb, hml, hown, hts⟩ (k_X9_writesNumber l hT a0 w_4 h0 H.size _ _ _ hc_5) (cwV 1 hts (rc_gV tw_8_189 tw_8_191 tw_p_55 tw_1_14 tw_8_192) rfl rfl rfl (by decide +kernel) ⟨Nat.le_of_ble_eq_true rfl, Nat.le_of_ble_eq_true rfl⟩) (rc_preV hT hW hK hE hS h0 (by decide) rfl (q := (RX9, TX9, 22)) rfl [.int w_4]) rfl rfl hl.1 rfl (lv_room (Nat.le_of_ble_eq_true rfl)) dX9_line_38 ⟨Nat.le_of_ble_eq_true rfl, Nat.le_of_ble_eq_true rfl⟩) (fun H locs hW hS => ?_)
      have hm := hm0
      clear hm0 hc_5
      refine lv_aload_n hx hb dX9_line_41 rfl (lv_at hl 0 rfl) ?_
      refine lv_bipush (v := 58) hx hb dX9_line_42 (by decide) ?_
      obtain ⟨w_6, σ_6, hc_6, hm0⟩ := rc_bd_inv hm
      clear hm
      refine rc_cv hS (va_runV (As := [.int (58 : Int32)]) (rest := []) ⟨hx, hb, hml, hown, hts⟩ (k_X9_writes l hT a0 (58 : Int32) h0 H.size _ _ _ hc_6) (cwV 1 hts (rc_gV tw_8_193 tw_8_195 tw_p_56 tw_1_14 tw_8_196) rfl rfl rfl (by decide +kernel) ⟨Nat.le_of_ble_eq_true rfl, Nat.le_of_ble_eq_true rfl⟩) (rc_preV hT hW hK hE hS h0 (by decide) rfl (q := (RX9, TX9, 22)) rfl [.int (58 : Int32)]) rfl rfl hl.1 rfl (lv_room (Nat.le_of_ble_eq_true rfl)) dX9_line_44 ⟨Nat.le_of_ble_eq_true rfl, Nat.le_of_ble_eq_true rfl⟩) (fun H locs hW hS => ?_)
      have hm := hm0
      clear hm0 hc_6
      refine lv_aload_n hx hb dX9_line_47 rfl (lv_at hl 0 rfl) ?_
      refine lv_aload_n hx hb dX9_line_48 rfl (lv_at hl 0 rfl) ?_
      refine lv_iload_n hx hb dX9_line_49 rfl (lv_at hl 1 rfl) ?_
      refine lv_iconst (v := 1) hx hb dX9_line_50 (by decide) ?_
      obtain ⟨w_7, σ_7, hc_7, hm0⟩ := rc_bd_inv hm
      clear hm
      refine rc_ci hS (va_runV (As := [.int u1, .int (1 : Int32)]) (rest := [.ref a0]) ⟨hx, hb, hml, hown, hts⟩ (k_X9_of l hT a0 u1 (1 : Int32) h0 H.size _ _ _ hc_7) (cwV 2 hts (rc_gV tw_7_163 tw_7_165 tw_p_20 tw_1_14 tw_7_166) rfl rfl rfl (by decide +kernel) ⟨Nat.le_of_ble_eq_true rfl, Nat.le_of_ble_eq_true rfl⟩) (rc_preV hT hW hK hE hS h0 (by decide) rfl (q := (RX9, TX9, 22)) rfl [.int u1, .int (1 : Int32)]) rfl rfl hl.1 rfl (lv_room (Nat.le_of_ble_eq_true rfl)) dX9_line_51 ⟨Nat.le_of_ble_eq_true rfl, Nat.le_of_ble_eq_true rfl⟩) (fun H locs hW hS => ?_)
      have hm := hm0
      clear hm0 hc_7
      obtain ⟨w_8, σ_8, hc_8, hm0⟩ := rc_bd_inv hm
      clear hm
      refine rc_cv hS (va_runV (As := [.int w_7]) (rest := []) ⟨hx, hb, hml, hown, hts⟩ (k_X9_writesNumber l hT a0 w_7 h0 H.size _ _ _ hc_8) (cwV 1 hts (rc_gV tw_8_189 tw_8_191 tw_p_55 tw_1_14 tw_8_192) rfl rfl rfl (by decide +kernel) ⟨Nat.le_of_ble_eq_true rfl, Nat.le_of_ble_eq_true rfl⟩) (rc_preV hT hW hK hE hS h0 (by decide) rfl (q := (RX9, TX9, 22)) rfl [.int w_7]) rfl rfl hl.1 rfl (lv_room (Nat.le_of_ble_eq_true rfl)) dX9_line_54 ⟨Nat.le_of_ble_eq_true rfl, Nat.le_of_ble_eq_true rfl⟩) (fun H locs hW hS => ?_)
      have hm := hm0
      clear hm0 hc_8
      refine lv_aload_n hx hb dX9_line_57 rfl (lv_at hl 0 rfl) ?_
      refine lv_iload_n hx hb dX9_line_58 rfl (lv_at hl 1 rfl) ?_
      refine lv_iconst (v := 1) hx hb dX9_line_59 (by decide) ?_
      obtain ⟨w_9, σ_9, hc_9, hm0⟩ := rc_bd_inv hm
      clear hm
      refine rc_ci hS (va_runV (As := [.int u1, .int (1 : Int32)]) (rest := []) ⟨hx, hb, hml, hown, hts⟩ (k_X9_of l hT a0 u1 (1 : Int32) h0 H.size _ _ _ hc_9) (cwV 2 hts (rc_gV tw_7_163 tw_7_165 tw_p_20 tw_1_14 tw_7_166) rfl rfl rfl (by decide +kernel) ⟨Nat.le_of_ble_eq_true rfl, Nat.le_of_ble_eq_true rfl⟩) (rc_preV hT hW hK hE hS h0 (by decide) rfl (q := (RX9, TX9, 22)) rfl [.int u1, .int (1 : Int32)]) rfl rfl hl.1 rfl (lv_room (Nat.le_of_ble_eq_true rfl)) dX9_line_60 ⟨Nat.le_of_ble_eq_true rfl, Nat.le_of_ble_eq_true rfl⟩) (fun H locs hW hS => ?_)
      have hm := hm0
      clear hm0 hc_9
      refine lv_if_ne (tgt := 71) hx hb dX9_line_63 (by decide) (fun c_21 => ?_) (fun c_21 => ?_)
      · replace hm := rc_f hm c_21
        refine lv_aload_n hx hb dX9_line_71 rfl (lv_at hl 0 rfl) ?_
        refine lv_bipush (v := 35) hx hb dX9_line_72 (by decide) ?_
        obtain ⟨w_10, σ_10, hc_10, hm0⟩ := rc_bd_inv hm
        clear hm
        refine rc_cv hS (va_runV (As := [.int (35 : Int32)]) (rest := []) ⟨hx, hb, hml, hown, hts⟩ (k_X9_writes l hT a0 (35 : Int32) h0 H.size _ _ _ hc_10) (cwV 1 hts (rc_gV tw_8_193 tw_8_195 tw_p_56 tw_1_14 tw_8_196) rfl rfl rfl (by decide +kernel) ⟨Nat.le_of_ble_eq_true rfl, Nat.le_of_ble_eq_true rfl⟩) (rc_preV hT hW hK hE hS h0 (by decide) rfl (q := (RX9, TX9, 22)) rfl [.int (35 : Int32)]) rfl rfl hl.1 rfl (lv_room (Nat.le_of_ble_eq_true rfl)) dX9_line_74 ⟨Nat.le_of_ble_eq_true rfl, Nat.le_of_ble_eq_true rfl⟩) (fun H locs hW hS => ?_)
        have hm := hm0
        clear hm0 hc_10
        refine lv_aload_n hx hb dX9_line_77 rfl (lv_at hl 0 rfl) ?_
        refine lv_aload_n hx hb dX9_line_78 rfl (lv_at hl 0 rfl) ?_
        refine lv_iload_n hx hb dX9_line_79 rfl (lv_at hl 1 rfl) ?_
        refine lv_iconst (v := 3) hx hb dX9_line_80 (by decide) ?_
        obtain ⟨w_11, σ_11, hc_11, hm0⟩ := rc_bd_inv hm
        clear hm
        refine rc_ci hS (va_runV (As := [.int u1, .int (3 : Int32)]) (rest := [.ref a0]) ⟨hx, hb, hml, hown, hts⟩ (k_X9_of l hT a0 u1 (3 : Int32) h0 H.size _ _ _ hc_11) (cwV 2 hts (rc_gV tw_7_163 tw_7_165 tw_p_20 tw_1_14 tw_7_166) rfl rfl rfl (by decide +kernel) ⟨Nat.le_of_ble_eq_true rfl, Nat.le_of_ble_eq_true rfl⟩) (rc_preV hT hW hK hE hS h0 (by decide) rfl (q := (RX9, TX9, 22)) rfl [.int u1, .int (3 : Int32)]) rfl rfl hl.1 rfl (lv_room (Nat.le_of_ble_eq_true rfl)) dX9_line_81 ⟨Nat.le_of_ble_eq_true rfl, Nat.le_of_ble_eq_true rfl⟩) (fun H locs hW hS => ?_)
        have hm := hm0
        clear hm0 hc_11
        obtain ⟨w_12, σ_12, hc_12, hm0⟩ := rc_bd_inv hm
        clear hm
        refine rc_cv hS (va_runV (As := [.int w_11]) (rest := []) ⟨hx, hb, hml, hown, hts⟩ (k_X9_writesNumber l hT a0 w_11 h0 H.size _ _ _ hc_12) (cwV 1 hts (rc_gV tw_8_189 tw_8_191 tw_p_55 tw_1_14 tw_8_192) rfl rfl rfl (by decide +kernel) ⟨Nat.le_of_ble_eq_true rfl, Nat.le_of_ble_eq_true rfl⟩) (rc_preV hT hW hK hE hS h0 (by decide) rfl (q := (RX9, TX9, 22)) rfl [.int w_11]) rfl rfl hl.1 rfl (lv_room (Nat.le_of_ble_eq_true rfl)) dX9_line_84 ⟨Nat.le_of_ble_eq_true rfl, Nat.le_of_ble_eq_true rfl⟩) (fun H locs hW hS => ?_)
        have hm := hm0
        clear hm0 hc_12
        refine lv_aload_n hx hb dX9_line_87 rfl (lv_at hl 0 rfl) ?_
        refine lv_bipush (v := 109) hx hb dX9_line_88 (by decide) ?_
        obtain ⟨w_13, σ_13, hc_13, hm0⟩ := rc_bd_inv hm
        clear hm
        refine rc_cv hS (va_runV (As := [.int (109 : Int32)]) (rest := []) ⟨hx, hb, hml, hown, hts⟩ (k_X9_writes l hT a0 (109 : Int32) h0 H.size _ _ _ hc_13) (cwV 1 hts (rc_gV tw_8_193 tw_8_195 tw_p_56 tw_1_14 tw_8_196) rfl rfl rfl (by decide +kernel) ⟨Nat.le_of_ble_eq_true rfl, Nat.le_of_ble_eq_true rfl⟩) (rc_preV hT hW hK hE hS h0 (by decide) rfl (q := (RX9, TX9, 22)) rfl [.int (109 : Int32)]) rfl rfl hl.1 rfl (lv_room (Nat.le_of_ble_eq_true rfl)) dX9_line_90 ⟨Nat.le_of_ble_eq_true rfl, Nat.le_of_ble_eq_true rfl⟩) (fun H locs hW hS => ?_)
        have hm := hm0
        clear hm0 hc_13
        refine lv_aload_n hx hb dX9_line_93 rfl (lv_at hl 0 rfl) ?_
        refine lv_aload_n hx hb dX9_line_94 rfl (lv_at hl 0 rfl) ?_
        refine lv_iload_n hx hb dX9_line_95 rfl (lv_at hl 1 rfl) ?_
        refine lv_iconst (v := 4) hx hb dX9_line_96 (by decide) ?_
        obtain ⟨w_14, σ_14, hc_14, hm0⟩ := rc_bd_inv hm
        clear hm
        refine rc_ci hS (va_runV (As := [.int u1, .int (4 : Int32)]) (rest := [.ref a0]) ⟨hx, hb, hml, hown, hts⟩ (k_X9_of l hT a0 u1 (4 : Int32) h0 H.size _ _ _ hc_14) (cwV 2 hts (rc_gV tw_7_163 tw_7_165 tw_p_20 tw_1_14 tw_7_166) rfl rfl rfl (by decide +kernel) ⟨Nat.le_of_ble_eq_true rfl, Nat.le_of_ble_eq_true rfl⟩) (rc_preV hT hW hK hE hS h0 (by decide) rfl (q := (RX9, TX9, 22)) rfl [.int u1, .int (4 : Int32)]) rfl rfl hl.1 rfl (lv_room (Nat.le_of_ble_eq_true rfl)) dX9_line_97 ⟨Nat.le_of_ble_eq_true rfl, Nat.le_of_ble_eq_true rfl⟩) (fun H locs hW hS => ?_)
        have hm := hm0
        clear hm0 hc_14
        obtain ⟨w_15, σ_15, hc_15, hm0⟩ := rc_bd_inv hm
        clear hm
        refine rc_cv hS (va_runV (As := [.int w_14]) (rest := []) ⟨hx, hb, hml, hown, hts⟩ (k_X9_writesNumber l hT a0 w_14 h0 H.size _ _ _ hc_15) (cwV 1 hts (rc_gV tw_8_189 tw_8_191 tw_p_55 tw_1_14 tw_8_192) rfl rfl rfl (by decide +kernel) ⟨Nat.le_of_ble_eq_true rfl, Nat.le_of_ble_eq_true rfl⟩) (rc_preV hT hW hK hE hS h0 (by decide) rfl (q := (RX9, TX9, 22)) rfl [.int w_14]) rfl rfl hl.1 rfl (lv_room (Nat.le_of_ble_eq_true rfl)) dX9_line_100 ⟨Nat.le_of_ble_eq_true rfl, Nat.le_of_ble_eq_true rfl⟩) (fun H locs hW hS => ?_)
        have hm := hm0
        clear hm0 hc_15
        refine lv_aload_n hx hb dX9_line_103 rfl (lv_at hl 0 rfl) ?_
        refine lv_iload_n hx hb dX9_line_104 rfl (lv_at hl 1 rfl) ?_
        refine lv_iconst (v := 2) hx hb dX9_line_105 (by decide) ?_
        obtain ⟨w_16, σ_16, hc_16, hm0⟩ := rc_bd_inv hm
        clear hm
        refine rc_ci hS (va_runV (As := [.int u1, .int (2 : Int32)]) (rest := []) ⟨hx, hb, hml, hown, hts⟩ (k_X9_of l hT a0 u1 (2 : Int32) h0 H.size _ _ _ hc_16) (cwV 2 hts (rc_gV tw_7_163 tw_7_165 tw_p_20 tw_1_14 tw_7_166) rfl rfl rfl (by decide +kernel) ⟨Nat.le_of_ble_eq_true rfl, Nat.le_of_ble_eq_true rfl⟩) (rc_preV hT hW hK hE hS h0 (by decide) rfl (q := (RX9, TX9, 22)) rfl [.int u1, .int (2 : Int32)]) rfl rfl hl.1 rfl (lv_room (Nat.le_of_ble_eq_true rfl)) dX9_line_106 ⟨Nat.le_of_ble_eq_true rfl, Nat.le_of_ble_eq_true rfl⟩) (fun H locs hW hS => ?_)
        have hm := hm0
        clear hm0 hc_16
        refine lv_if_ne (tgt := 117) hx hb dX9_line_109 (by decide) (fun c_20 => ?_) (fun c_20 => ?_)
        · replace hm := rc_f hm c_20
          refine lv_aload_n hx hb dX9_line_117 rfl (lv_at hl 0 rfl) ?_
          refine lv_bipush (v := 104) hx hb dX9_line_118 (by decide) ?_
          obtain ⟨w_17, σ_17, hc_17, hm0⟩ := rc_bd_inv hm
          clear hm
          refine rc_cv hS (va_runV (As := [.int (104 : Int32)]) (rest := []) ⟨hx, hb, hml, hown, hts⟩ (k_X9_writes l hT a0 (104 : Int32) h0 H.size _ _ _ hc_17) (cwV 1 hts (rc_gV tw_8_193 tw_8_195 tw_p_56 tw_1_14 tw_8_196) rfl rfl rfl (by decide +kernel) ⟨Nat.le_of_ble_eq_true rfl, Nat.le_of_ble_eq_true rfl⟩) (rc_preV hT hW hK hE hS h0 (by decide) rfl (q := (RX9, TX9, 22)) rfl [.int (104 : Int32)]) rfl rfl hl.1 rfl (lv_room (Nat.le_of_ble_eq_true rfl)) dX9_line_120 ⟨Nat.le_of_ble_eq_true rfl, Nat.le_of_ble_eq_true rfl⟩) (fun H locs hW hS => ?_)
          have hm := hm0
          clear hm0 hc_17
          refine lv_aload_n hx hb dX9_line_123 rfl (lv_at hl 0 rfl) ?_
          refine lv_aload_n hx hb dX9_line_124 rfl (lv_at hl 0 rfl) ?_
          refine lv_iload_n hx hb dX9_line_125 rfl (lv_at hl 1 rfl) ?_
          refine lv_iconst (v := 2) hx hb dX9_line_126 (by decide) ?_
          obtain ⟨w_18, σ_18, hc_18, hm0⟩ := rc_bd_inv hm
          clear hm
          refine rc_ci hS (va_runV (As := [.int u1, .int (2 : Int32)]) (rest := [.ref a0]) ⟨hx, hb, hml, hown, hts⟩ (k_X9_of l hT a0 u1 (2 : Int32) h0 H.size _ _ _ hc_18) (cwV 2 hts (rc_gV tw_7_163 tw_7_165 tw_p_20 tw_1_14 tw_7_166) rfl rfl rfl (by decide +kernel) ⟨Nat.le_of_ble_eq_true rfl, Nat.le_of_ble_eq_true rfl⟩) (rc_preV hT hW hK hE hS h0 (by decide) rfl (q := (RX9, TX9, 22)) rfl [.int u1, .int (2 : Int32)]) rfl rfl hl.1 rfl (lv_room (Nat.le_of_ble_eq_true rfl)) dX9_line_127 ⟨Nat.le_of_ble_eq_true rfl, Nat.le_of_ble_eq_true rfl⟩) (fun H locs hW hS => ?_)
          have hm := hm0
          clear hm0 hc_18
          obtain ⟨w_19, σ_19, hc_19, hm0⟩ := rc_bd_inv hm
          clear hm
          refine rc_cv hS (va_runV (As := [.int w_18]) (rest := []) ⟨hx, hb, hml, hown, hts⟩ (k_X9_writesNumber l hT a0 w_18 h0 H.size _ _ _ hc_19) (cwV 1 hts (rc_gV tw_8_189 tw_8_191 tw_p_55 tw_1_14 tw_8_192) rfl rfl rfl (by decide +kernel) ⟨Nat.le_of_ble_eq_true rfl, Nat.le_of_ble_eq_true rfl⟩) (rc_preV hT hW hK hE hS h0 (by decide) rfl (q := (RX9, TX9, 22)) rfl [.int w_18]) rfl rfl hl.1 rfl (lv_room (Nat.le_of_ble_eq_true rfl)) dX9_line_130 ⟨Nat.le_of_ble_eq_true rfl, Nat.le_of_ble_eq_true rfl⟩) (fun H locs hW hS => ?_)
          have hm := hm0
          clear hm0 hc_19
          refine lv_aload_n hx hb dX9_line_133 rfl (lv_at hl 0 rfl) ?_
          refine rg_10_11 hx hb hts hown hK hW h0 tw_7_80 dX9_line_134 ?_
          exact rc_eiret hx hb hr hlocks hW hS (Nat.le_of_ble_eq_true rfl) (Nat.le_of_ble_eq_true rfl) hm dX9_line_137
        · replace hm := rc_t hm c_20
          refine lv_aload_n hx hb dX9_line_112 rfl (lv_at hl 0 rfl) ?_
          refine rg_10_11 hx hb hts hown hK hW h0 tw_7_80 dX9_line_113 ?_
          exact rc_eiret hx hb hr hlocks hW hS (Nat.le_of_ble_eq_true rfl) (Nat.le_of_ble_eq_true rfl) hm dX9_line_116
      · replace hm := rc_t hm c_21
        refine lv_aload_n hx hb dX9_line_66 rfl (lv_at hl 0 rfl) ?_
        refine rg_10_11 hx hb hts hown hK hW h0 tw_7_80 dX9_line_67 ?_
        exact rc_eiret hx hb hr hlocks hW hS (Nat.le_of_ble_eq_true rfl) (Nat.le_of_ble_eq_true rfl) hm dX9_line_70
    · replace hm := rc_f hm c_22
      refine lv_iconst (v := 0) hx hb dX9_line_24 (by decide) ?_
      exact rc_eiret hx hb hr hlocks hW hS (Nat.le_of_ble_eq_true rfl) (Nat.le_of_ble_eq_true rfl) hm dX9_line_25
  · replace hm := rc_f hm c_44
    refine lv_iconst (v := 0) hx hb dX9_line_9 (by decide) ?_
    refine lv_goto (tgt := 14) hx hb dX9_line_10 (by decide) ?_
    refine rp_10_0 hx hb hts hown hK hW hS h0 tw_7_69 dX9_line_14 (fun σ_23 H locs eσ hW hS => ?_)
    replace hm := rc_lt_at hm eσ
    clear eσ
    refine lv_aload_n hx hb dX9_line_17 rfl (lv_at hl 0 rfl) ?_
    refine rg_10_0 hx hb hts hown hK hW h0 tw_7_69 dX9_line_18 ?_
    refine lv_if_le (tgt := 26) hx hb dX9_line_21 (by decide) (fun c_43 => ?_) (fun c_43 => ?_)
    · replace hm := rc_t hm c_43
      refine lv_aload_n hx hb dX9_line_26 rfl (lv_at hl 0 rfl) ?_
      refine lv_iconst (v := 0) hx hb dX9_line_27 (by decide) ?_
      refine rp_10_11 hx hb hts hown hK hW hS h0 tw_7_80 dX9_line_28 (fun σ_24 H locs eσ hW hS => ?_)
      replace hm := rc_lt_at hm eσ
      clear eσ
      refine lv_aload_n hx hb dX9_line_31 rfl (lv_at hl 0 rfl) ?_
      refine lv_aload_n hx hb dX9_line_32 rfl (lv_at hl 0 rfl) ?_
      refine lv_iload_n hx hb dX9_line_33 rfl (lv_at hl 1 rfl) ?_
      refine lv_iconst (v := 0) hx hb dX9_line_34 (by decide) ?_
      obtain ⟨w_25, σ_25, hc_25, hm0⟩ := rc_bd_inv hm
      clear hm
      refine rc_ci hS (va_runV (As := [.int u1, .int (0 : Int32)]) (rest := [.ref a0]) ⟨hx, hb, hml, hown, hts⟩ (k_X9_of l hT a0 u1 (0 : Int32) h0 H.size _ _ _ hc_25) (cwV 2 hts (rc_gV tw_7_163 tw_7_165 tw_p_20 tw_1_14 tw_7_166) rfl rfl rfl (by decide +kernel) ⟨Nat.le_of_ble_eq_true rfl, Nat.le_of_ble_eq_true rfl⟩) (rc_preV hT hW hK hE hS h0 (by decide) rfl (q := (RX9, TX9, 22)) rfl [.int u1, .int (0 : Int32)]) rfl rfl hl.1 rfl (lv_room (Nat.le_of_ble_eq_true rfl)) dX9_line_35 ⟨Nat.le_of_ble_eq_true rfl, Nat.le_of_ble_eq_true rfl⟩) (fun H locs hW hS => ?_)
      have hm := hm0
      clear hm0 hc_25
      obtain ⟨w_26, σ_26, hc_26, hm0⟩ := rc_bd_inv hm
      clear hm
      refine rc_cv hS (va_runV (As := [.int w_25]) (rest := []) ⟨hx, hb, hml, hown, hts⟩ (k_X9_writesNumber l hT a0 w_25 h0 H.size _ _ _ hc_26) (cwV 1 hts (rc_gV tw_8_189 tw_8_191 tw_p_55 tw_1_14 tw_8_192) rfl rfl rfl (by decide +kernel) ⟨Nat.le_of_ble_eq_true rfl, Nat.le_of_ble_eq_true rfl⟩) (rc_preV hT hW hK hE hS h0 (by decide) rfl (q := (RX9, TX9, 22)) rfl [.int w_25]) rfl rfl hl.1 rfl (lv_room (Nat.le_of_ble_eq_true rfl)) dX9_line_38 ⟨Nat.le_of_ble_eq_true rfl, Nat.le_of_ble_eq_true rfl⟩) (fun H locs hW hS => ?_)
      have hm := hm0
      clear hm0 hc_26
      refine lv_aload_n hx hb dX9_line_41 rfl (lv_at hl 0 rfl) ?_
      refine lv_bipush (v := 58) hx hb dX9_line_42 (by decide) ?_
      obtain ⟨w_27, σ_27, hc_27, hm0⟩ := rc_bd_inv hm
      clear hm
      refine rc_cv hS (va_runV (As := [.int (58 : Int32)]) (rest := []) ⟨hx, hb, hml, hown, hts⟩ (k_X9_writes l hT a0 (58 : Int32) h0 H.size _ _ _ hc_27) (cwV 1 hts (rc_gV tw_8_193 tw_8_195 tw_p_56 tw_1_14 tw_8_196) rfl rfl rfl (by decide +kernel) ⟨Nat.le_of_ble_eq_true rfl, Nat.le_of_ble_eq_true rfl⟩) (rc_preV hT hW hK hE hS h0 (by decide) rfl (q := (RX9, TX9, 22)) rfl [.int (58 : Int32)]) rfl rfl hl.1 rfl (lv_room (Nat.le_of_ble_eq_true rfl)) dX9_line_44 ⟨Nat.le_of_ble_eq_true rfl, Nat.le_of_ble_eq_true rfl⟩) (fun H locs hW hS => ?_)
      have hm := hm0
      clear hm0 hc_27
      refine lv_aload_n hx hb dX9_line_47 rfl (lv_at hl 0 rfl) ?_
      refine lv_aload_n hx hb dX9_line_48 rfl (lv_at hl 0 rfl) ?_
      refine lv_iload_n hx hb dX9_line_49 rfl (lv_at hl 1 rfl) ?_
      refine lv_iconst (v := 1) hx hb dX9_line_50 (by decide) ?_
      obtain ⟨w_28, σ_28, hc_28, hm0⟩ := rc_bd_inv hm
      clear hm
      refine rc_ci hS (va_runV (As := [.int u1, .int (1 : Int32)]) (rest := [.ref a0]) ⟨hx, hb, hml, hown, hts⟩ (k_X9_of l hT a0 u1 (1 : Int32) h0 H.size _ _ _ hc_28) (cwV 2 hts (rc_gV tw_7_163 tw_7_165 tw_p_20 tw_1_14 tw_7_166) rfl rfl rfl (by decide +kernel) ⟨Nat.le_of_ble_eq_true rfl, Nat.le_of_ble_eq_true rfl⟩) (rc_preV hT hW hK hE hS h0 (by decide) rfl (q := (RX9, TX9, 22)) rfl [.int u1, .int (1 : Int32)]) rfl rfl hl.1 rfl (lv_room (Nat.le_of_ble_eq_true rfl)) dX9_line_51 ⟨Nat.le_of_ble_eq_true rfl, Nat.le_of_ble_eq_true rfl⟩) (fun H locs hW hS => ?_)
      have hm := hm0
      clear hm0 hc_28
      obtain ⟨w_29, σ_29, hc_29, hm0⟩ := rc_bd_inv hm
      clear hm
      refine rc_cv hS (va_runV (As := [.int w_28]) (rest := []) ⟨hx, hb, hml, hown, hts⟩ (k_X9_writesNumber l hT a0 w_28 h0 H.size _ _ _ hc_29) (cwV 1 hts (rc_gV tw_8_189 tw_8_191 tw_p_55 tw_1_14 tw_8_192) rfl rfl rfl (by decide +kernel) ⟨Nat.le_of_ble_eq_true rfl, Nat.le_of_ble_eq_true rfl⟩) (rc_preV hT hW hK hE hS h0 (by decide) rfl (q := (RX9, TX9, 22)) rfl [.int w_28]) rfl rfl hl.1 rfl (lv_room (Nat.le_of_ble_eq_true rfl)) dX9_line_54 ⟨Nat.le_of_ble_eq_true rfl, Nat.le_of_ble_eq_true rfl⟩) (fun H locs hW hS => ?_)
      have hm := hm0
      clear hm0 hc_29
      refine lv_aload_n hx hb dX9_line_57 rfl (lv_at hl 0 rfl) ?_
      refine lv_iload_n hx hb dX9_line_58 rfl (lv_at hl 1 rfl) ?_
      refine lv_iconst (v := 1) hx hb dX9_line_59 (by decide) ?_
      obtain ⟨w_30, σ_30, hc_30, hm0⟩ := rc_bd_inv hm
      clear hm
      refine rc_ci hS (va_runV (As := [.int u1, .int (1 : Int32)]) (rest := []) ⟨hx, hb, hml, hown, hts⟩ (k_X9_of l hT a0 u1 (1 : Int32) h0 H.size _ _ _ hc_30) (cwV 2 hts (rc_gV tw_7_163 tw_7_165 tw_p_20 tw_1_14 tw_7_166) rfl rfl rfl (by decide +kernel) ⟨Nat.le_of_ble_eq_true rfl, Nat.le_of_ble_eq_true rfl⟩) (rc_preV hT hW hK hE hS h0 (by decide) rfl (q := (RX9, TX9, 22)) rfl [.int u1, .int (1 : Int32)]) rfl rfl hl.1 rfl (lv_room (Nat.le_of_ble_eq_true rfl)) dX9_line_60 ⟨Nat.le_of_ble_eq_true rfl, Nat.le_of_ble_eq_true rfl⟩) (fun H locs hW hS => ?_)
      have hm := hm0
      clear hm0 hc_30
      refine lv_if_ne (tgt := 71) hx hb dX9_line_63 (by decide) (fun c_42 => ?_) (fun c_42 => ?_)
      · replace hm := rc_f hm c_42
        refine lv_aload_n hx hb dX9_line_71 rfl (lv_at hl 0 rfl) ?_
        refine lv_bipush (v := 35) hx hb dX9_line_72 (by decide) ?_
        obtain ⟨w_31, σ_31, hc_31, hm0⟩ := rc_bd_inv hm
        clear hm
        refine rc_cv hS (va_runV (As := [.int (35 : Int32)]) (rest := []) ⟨hx, hb, hml, hown, hts⟩ (k_X9_writes l hT a0 (35 : Int32) h0 H.size _ _ _ hc_31) (cwV 1 hts (rc_gV tw_8_193 tw_8_195 tw_p_56 tw_1_14 tw_8_196) rfl rfl rfl (by decide +kernel) ⟨Nat.le_of_ble_eq_true rfl, Nat.le_of_ble_eq_true rfl⟩) (rc_preV hT hW hK hE hS h0 (by decide) rfl (q := (RX9, TX9, 22)) rfl [.int (35 : Int32)]) rfl rfl hl.1 rfl (lv_room (Nat.le_of_ble_eq_true rfl)) dX9_line_74 ⟨Nat.le_of_ble_eq_true rfl, Nat.le_of_ble_eq_true rfl⟩) (fun H locs hW hS => ?_)
        have hm := hm0
        clear hm0 hc_31
        refine lv_aload_n hx hb dX9_line_77 rfl (lv_at hl 0 rfl) ?_
        refine lv_aload_n hx hb dX9_line_78 rfl (lv_at hl 0 rfl) ?_
        refine lv_iload_n hx hb dX9_line_79 rfl (lv_at hl 1 rfl) ?_
        refine lv_iconst (v := 3) hx hb dX9_line_80 (by decide) ?_
        obtain ⟨w_32, σ_32, hc_32, hm0⟩ := rc_bd_inv hm
        clear hm
        refine rc_ci hS (va_runV (As := [.int u1, .int (3 : Int32)]) (rest := [.ref a0]) ⟨hx, hb, hml, hown, hts⟩ (k_X9_of l hT a0 u1 (3 : Int32) h0 H.size _ _ _ hc_32) (cwV 2 hts (rc_gV tw_7_163 tw_7_165 tw_p_20 tw_1_14 tw_7_166) rfl rfl rfl (by decide +kernel) ⟨Nat.le_of_ble_eq_true rfl, Nat.le_of_ble_eq_true rfl⟩) (rc_preV hT hW hK hE hS h0 (by decide) rfl (q := (RX9, TX9, 22)) rfl [.int u1, .int (3 : Int32)]) rfl rfl hl.1 rfl (lv_room (Nat.le_of_ble_eq_true rfl)) dX9_line_81 ⟨Nat.le_of_ble_eq_true rfl, Nat.le_of_ble_eq_true rfl⟩) (fun H locs hW hS => ?_)
        have hm := hm0
        clear hm0 hc_32
        obtain ⟨w_33, σ_33, hc_33, hm0⟩ := rc_bd_inv hm
        clear hm
        refine rc_cv hS (va_runV (As := [.int w_32]) (rest := []) ⟨hx, hb, hml, hown, hts⟩ (k_X9_writesNumber l hT a0 w_32 h0 H.size _ _ _ hc_33) (cwV 1 hts (rc_gV tw_8_189 tw_8_191 tw_p_55 tw_1_14 tw_8_192) rfl rfl rfl (by decide +kernel) ⟨Nat.le_of_ble_eq_true rfl, Nat.le_of_ble_eq_true rfl⟩) (rc_preV hT hW hK hE hS h0 (by decide) rfl (q := (RX9, TX9, 22)) rfl [.int w_32]) rfl rfl hl.1 rfl (lv_room (Nat.le_of_ble_eq_true rfl)) dX9_line_84 ⟨Nat.le_of_ble_eq_true rfl, Nat.le_of_ble_eq_true rfl⟩) (fun H locs hW hS => ?_)
        have hm := hm0
        clear hm0 hc_33
        refine lv_aload_n hx hb dX9_line_87 rfl (lv_at hl 0 rfl) ?_
        refine lv_bipush (v := 109) hx hb dX9_line_88 (by decide) ?_
        obtain ⟨w_34, σ_34, hc_34, hm0⟩ := rc_bd_inv hm
        clear hm
        refine rc_cv hS (va_runV (As := [.int (109 : Int32)]) (rest := []) ⟨hx, hb, hml, hown, hts⟩ (k_X9_writes l hT a0 (109 : Int32) h0 H.size _ _ _ hc_34) (cwV 1 hts (rc_gV tw_8_193 tw_8_195 tw_p_56 tw_1_14 tw_8_196) rfl rfl rfl (by decide +kernel) ⟨Nat.le_of_ble_eq_true rfl, Nat.le_of_ble_eq_true rfl⟩) (rc_preV hT hW hK hE hS h0 (by decide) rfl (q := (RX9, TX9, 22)) rfl [.int (109 : Int32)]) rfl rfl hl.1 rfl (lv_room (Nat.le_of_ble_eq_true rfl)) dX9_line_90 ⟨Nat.le_of_ble_eq_true rfl, Nat.le_of_ble_eq_true rfl⟩) (fun H locs hW hS => ?_)
        have hm := hm0
        clear hm0 hc_34
        refine lv_aload_n hx hb dX9_line_93 rfl (lv_at hl 0 rfl) ?_
        refine lv_aload_n hx hb dX9_line_94 rfl (lv_at hl 0 rfl) ?_
        refine lv_iload_n hx hb dX9_line_95 rfl (lv_at hl 1 rfl) ?_
        refine lv_iconst (v := 4) hx hb dX9_line_96 (by decide) ?_
        obtain ⟨w_35, σ_35, hc_35, hm0⟩ := rc_bd_inv hm
        clear hm
        refine rc_ci hS (va_runV (As := [.int u1, .int (4 : Int32)]) (rest := [.ref a0]) ⟨hx, hb, hml, hown, hts⟩ (k_X9_of l hT a0 u1 (4 : Int32) h0 H.size _ _ _ hc_35) (cwV 2 hts (rc_gV tw_7_163 tw_7_165 tw_p_20 tw_1_14 tw_7_166) rfl rfl rfl (by decide +kernel) ⟨Nat.le_of_ble_eq_true rfl, Nat.le_of_ble_eq_true rfl⟩) (rc_preV hT hW hK hE hS h0 (by decide) rfl (q := (RX9, TX9, 22)) rfl [.int u1, .int (4 : Int32)]) rfl rfl hl.1 rfl (lv_room (Nat.le_of_ble_eq_true rfl)) dX9_line_97 ⟨Nat.le_of_ble_eq_true rfl, Nat.le_of_ble_eq_true rfl⟩) (fun H locs hW hS => ?_)
        have hm := hm0
        clear hm0 hc_35
        obtain ⟨w_36, σ_36, hc_36, hm0⟩ := rc_bd_inv hm
        clear hm
        refine rc_cv hS (va_runV (As := [.int w_35]) (rest := []) ⟨hx, hb, hml, hown, hts⟩ (k_X9_writesNumber l hT a0 w_35 h0 H.size _ _ _ hc_36) (cwV 1 hts (rc_gV tw_8_189 tw_8_191 tw_p_55 tw_1_14 tw_8_192) rfl rfl rfl (by decide +kernel) ⟨Nat.le_of_ble_eq_true rfl, Nat.le_of_ble_eq_true rfl⟩) (rc_preV hT hW hK hE hS h0 (by decide) rfl (q := (RX9, TX9, 22)) rfl [.int w_35]) rfl rfl hl.1 rfl (lv_room (Nat.le_of_ble_eq_true rfl)) dX9_line_100 ⟨Nat.le_of_ble_eq_true rfl, Nat.le_of_ble_eq_true rfl⟩) (fun H locs hW hS => ?_)
        have hm := hm0
        clear hm0 hc_36
        refine lv_aload_n hx hb dX9_line_103 rfl (lv_at hl 0 rfl) ?_
        refine lv_iload_n hx hb dX9_line_104 rfl (lv_at hl 1 rfl) ?_
        refine lv_iconst (v := 2) hx hb dX9_line_105 (by decide) ?_
        obtain ⟨w_37, σ_37, hc_37, hm0⟩ := rc_bd_inv hm
        clear hm
        refine rc_ci hS (va_runV (As := [.int u1, .int (2 : Int32)]) (rest := []) ⟨hx, hb, hml, hown, hts⟩ (k_X9_of l hT a0 u1 (2 : Int32) h0 H.size _ _ _ hc_37) (cwV 2 hts (rc_gV tw_7_163 tw_7_165 tw_p_20 tw_1_14 tw_7_166) rfl rfl rfl (by decide +kernel) ⟨Nat.le_of_ble_eq_true rfl, Nat.le_of_ble_eq_true rfl⟩) (rc_preV hT hW hK hE hS h0 (by decide) rfl (q := (RX9, TX9, 22)) rfl [.int u1, .int (2 : Int32)]) rfl rfl hl.1 rfl (lv_room (Nat.le_of_ble_eq_true rfl)) dX9_line_106 ⟨Nat.le_of_ble_eq_true rfl, Nat.le_of_ble_eq_true rfl⟩) (fun H locs hW hS => ?_)
        have hm := hm0
        clear hm0 hc_37
        refine lv_if_ne (tgt := 117) hx hb dX9_line_109 (by decide) (fun c_41 => ?_) (fun c_41 => ?_)
        · replace hm := rc_f hm c_41
          refine lv_aload_n hx hb dX9_line_117 rfl (lv_at hl 0 rfl) ?_
          refine lv_bipush (v := 104) hx hb dX9_line_118 (by decide) ?_
          obtain ⟨w_38, σ_38, hc_38, hm0⟩ := rc_bd_inv hm
          clear hm
          refine rc_cv hS (va_runV (As := [.int (104 : Int32)]) (rest := []) ⟨hx, hb, hml, hown, hts⟩ (k_X9_writes l hT a0 (104 : Int32) h0 H.size _ _ _ hc_38) (cwV 1 hts (rc_gV tw_8_193 tw_8_195 tw_p_56 tw_1_14 tw_8_196) rfl rfl rfl (by decide +kernel) ⟨Nat.le_of_ble_eq_true rfl, Nat.le_of_ble_eq_true rfl⟩) (rc_preV hT hW hK hE hS h0 (by decide) rfl (q := (RX9, TX9, 22)) rfl [.int (104 : Int32)]) rfl rfl hl.1 rfl (lv_room (Nat.le_of_ble_eq_true rfl)) dX9_line_120 ⟨Nat.le_of_ble_eq_true rfl, Nat.le_of_ble_eq_true rfl⟩) (fun H locs hW hS => ?_)
          have hm := hm0
          clear hm0 hc_38
          refine lv_aload_n hx hb dX9_line_123 rfl (lv_at hl 0 rfl) ?_
          refine lv_aload_n hx hb dX9_line_124 rfl (lv_at hl 0 rfl) ?_
          refine lv_iload_n hx hb dX9_line_125 rfl (lv_at hl 1 rfl) ?_
          refine lv_iconst (v := 2) hx hb dX9_line_126 (by decide) ?_
          obtain ⟨w_39, σ_39, hc_39, hm0⟩ := rc_bd_inv hm
          clear hm
          refine rc_ci hS (va_runV (As := [.int u1, .int (2 : Int32)]) (rest := [.ref a0]) ⟨hx, hb, hml, hown, hts⟩ (k_X9_of l hT a0 u1 (2 : Int32) h0 H.size _ _ _ hc_39) (cwV 2 hts (rc_gV tw_7_163 tw_7_165 tw_p_20 tw_1_14 tw_7_166) rfl rfl rfl (by decide +kernel) ⟨Nat.le_of_ble_eq_true rfl, Nat.le_of_ble_eq_true rfl⟩) (rc_preV hT hW hK hE hS h0 (by decide) rfl (q := (RX9, TX9, 22)) rfl [.int u1, .int (2 : Int32)]) rfl rfl hl.1 rfl (lv_room (Nat.le_of_ble_eq_true rfl)) dX9_line_127 ⟨Nat.le_of_ble_eq_true rfl, Nat.le_of_ble_eq_true rfl⟩) (fun H locs hW hS => ?_)
          have hm := hm0
          clear hm0 hc_39
          obtain ⟨w_40, σ_40, hc_40, hm0⟩ := rc_bd_inv hm
          clear hm
          refine rc_cv hS (va_runV (As := [.int w_39]) (rest := []) ⟨hx, hb, hml, hown, hts⟩ (k_X9_writesNumber l hT a0 w_39 h0 H.size _ _ _ hc_40) (cwV 1 hts (rc_gV tw_8_189 tw_8_191 tw_p_55 tw_1_14 tw_8_192) rfl rfl rfl (by decide +kernel) ⟨Nat.le_of_ble_eq_true rfl, Nat.le_of_ble_eq_true rfl⟩) (rc_preV hT hW hK hE hS h0 (by decide) rfl (q := (RX9, TX9, 22)) rfl [.int w_39]) rfl rfl hl.1 rfl (lv_room (Nat.le_of_ble_eq_true rfl)) dX9_line_130 ⟨Nat.le_of_ble_eq_true rfl, Nat.le_of_ble_eq_true rfl⟩) (fun H locs hW hS => ?_)
          have hm := hm0
          clear hm0 hc_40
          refine lv_aload_n hx hb dX9_line_133 rfl (lv_at hl 0 rfl) ?_
          refine rg_10_11 hx hb hts hown hK hW h0 tw_7_80 dX9_line_134 ?_
          exact rc_eiret hx hb hr hlocks hW hS (Nat.le_of_ble_eq_true rfl) (Nat.le_of_ble_eq_true rfl) hm dX9_line_137
        · replace hm := rc_t hm c_41
          refine lv_aload_n hx hb dX9_line_112 rfl (lv_at hl 0 rfl) ?_
          refine rg_10_11 hx hb hts hown hK hW h0 tw_7_80 dX9_line_113 ?_
          exact rc_eiret hx hb hr hlocks hW hS (Nat.le_of_ble_eq_true rfl) (Nat.le_of_ble_eq_true rfl) hm dX9_line_116
      · replace hm := rc_t hm c_42
        refine lv_aload_n hx hb dX9_line_66 rfl (lv_at hl 0 rfl) ?_
        refine rg_10_11 hx hb hts hown hK hW h0 tw_7_80 dX9_line_67 ?_
        exact rc_eiret hx hb hr hlocks hW hS (Nat.le_of_ble_eq_true rfl) (Nat.le_of_ble_eq_true rfl) hm dX9_line_70
    · replace hm := rc_f hm c_43
      refine lv_iconst (v := 0) hx hb dX9_line_24 (by decide) ?_
      exact rc_eiret hx hb hr hlocks hW hS (Nat.le_of_ble_eq_true rfl) (Nat.le_of_ble_eq_true rfl) hm dX9_line_25
set_option maxHeartbeats 4000000 in
set_option maxRecDepth 100000 in
theorem k_X9_panel (l : Launch) {Y : rc_Y} {sh : Nat → Nat} {rf : rc_F} (hT : rc_T Y sh rf) (a0 : Nat) (h0 : sh a0 = 10) (sz : Nat) (σ σ' : rc_S) (r : Int32) (hm : f_X9_panel rf a0 σ = some (r, σ')) : Met l yX9_panel (Cond.code yX9_panel cX9_panel 2 (some .int) :: rc_big) ({ frames := 2, cells := 0, slots := 0, locals := 42 } : Room) (rc_P Y sh rf σ sz [.ref a0]) (va_Qi (fun (r' : Int32) (_ : Unit) => r' = r) (fun _ t => rc_W Y sh rf σ' t.heap) (rc_A sh sz)) 0 0 (rc_A sh sz) := by
  refine Met.ofW (cc := cX9_panel) (maxL := 2) (ret := (some .int)) (by decide +kernel) rfl ?_
  intro p e s m args below meth c s₁ B hml hv
  obtain ⟨rfl, hsz, hW, hK, hE⟩ := hv
  have hx := B.exec
  have hb := B.bytes
  have hr := B.returns
  have hts : ∀ w ∈ rc_big, w.before _ s = true := fun w h => atoms_spec (ws := Cond.code yX9_panel cX9_panel 2 (some .int) :: rc_big) B.pre w (List.mem_cons_of_mem _ h)
  have hown : s.vm.findClass RX9 = some m.cls := findClass_of_methodNamed B.named
  have hlocks := B.notSynchronized
  clear B
  subst hsz
  have hS : va_S (rc_A sh s.heap.size) s.heap s.heap [] := va_S.rf
  have hl := lv_entry ([.ref a0]) (n := 2) (Nat.le_of_ble_eq_true rfl)
  rw [lg_entry_eq]
  generalize (lg_sl ([.ref a0]) ++ List.replicate (2 - (lg_sl ([.ref a0])).length) Slot.unset).toArray = ls at hl ⊢
  have hl : lv_has ls 2 [(0, .ref a0)] := hl
  have lp_12 : ∀ (K : Int32 → rc_S → Option (Int32 × rc_S)) (hKK : ∀ (v1 : Int32) (σ : rc_S) (H : Heap) (locs : List Loc) (ls : Array Slot), K v1 σ = some (r, σ') → rc_W Y sh rf σ H → va_S (rc_A sh s.heap.size) s.heap H locs → lv_has ls 2 [(0, .ref a0)] → W p l e (headSpec (Cond.code yX9_panel cX9_panel 2 (some .int) :: rc_big) ({ frames := 2, cells := 0, slots := 0, locals := 42 } : Room)).room s m (([.ref a0] : List Value).toArray) below meth c H locs 0 0 (MQ below (va_Qi (fun (r' : Int32) (_ : Unit) => r' = r) (fun _ t => rc_W Y sh rf σ' t.heap) (rc_A sh s.heap.size)) ([.ref a0] : List Value).toArray s 0 0 (rc_A sh s.heap.size)) (F0 m 81 ls [])) (n : Nat) (v1 : Int32) (σ : rc_S) (H : Heap) (locs : List Loc) (ls : Array Slot), f_X9_panel_12 rf a0 K n v1 σ = some (r, σ') → rc_W Y sh rf σ H → va_S (rc_A sh s.heap.size) s.heap H locs → lv_has ls 2 [(0, .ref a0), (1, .int v1)] → W p l e (headSpec (Cond.code yX9_panel cX9_panel 2 (some .int) :: rc_big) ({ frames := 2, cells := 0, slots := 0, locals := 42 } : Room)).room s m (([.ref a0] : List Value).toArray) below meth c H locs 0 0 (MQ below (va_Qi (fun (r' : Int32) (_ : Unit) => r' = r) (fun _ t => rc_W Y sh rf σ' t.heap) (rc_A sh s.heap.size)) ([.ref a0] : List Value).toArray s 0 0 (rc_A sh s.heap.size)) (F0 m 12 ls []) := by
    intro  K hKK n
    induction n with
    | zero =>
      intro v1 σ H locs ls hm
      rw [f_X9_panel_12] at hm
      cases hm
    | succ n ih =>
      intro v1 σ H locs ls hm hW hS hl
      rw [f_X9_panel_12] at hm
      refine lv_iload_n hx hb dX9_panel_12 rfl (lv_at hl 1 rfl) ?_
      refine lv_aload_n hx hb dX9_panel_13 rfl (lv_at hl 0 rfl) ?_
      refine rg_10_1 hx hb hts hown hK hW h0 tw_7_70 dX9_panel_14 ?_
      refine lv_iconst (v := 1) hx hb dX9_panel_17 (by decide) ?_
      refine rc_ialdj (j := 1) hx hb hK hW (rc_t_10_1 hT h0) (by decide) rfl (rc_inD (by decide)) (by decide) dX9_panel_18 ?_
      refine lv_icmp_ge (tgt := 81) hx hb dX9_panel_19 (by decide) (fun c_25 => ?_) (fun c_25 => ?_)
      · replace hm := rc_t hm c_25
        exact hKK v1 σ _ _ _ hm hW hS (lv_sub hl [0] rfl)
      · replace hm := rc_f hm c_25
        refine lv_iload_n hx hb dX9_panel_22 rfl (lv_at hl 1 rfl) ?_
        refine lv_if_le (tgt := 32) hx hb dX9_panel_23 (by decide) (fun c_24 => ?_) (fun c_24 => ?_)
        · replace hm := rc_t hm c_24
          refine lv_aload_n hx hb dX9_panel_32 rfl (lv_at hl 0 rfl) ?_
          refine lv_aload_n hx hb dX9_panel_33 rfl (lv_at hl 0 rfl) ?_
          refine rg_10_1 hx hb hts hown hK hW h0 tw_7_70 dX9_panel_34 ?_
          refine lv_bipush (v := 63) hx hb dX9_panel_37 (by decide) ?_
          refine lv_iconst (v := 2) hx hb dX9_panel_39 (by decide) ?_
          refine lv_iload_n hx hb dX9_panel_40 rfl (lv_at hl 1 rfl) ?_
          refine lv_imul hx hb dX9_panel_41 ?_
          refine lv_iadd hx hb dX9_panel_42 ?_
          refine lv_iconst (v := 1) hx hb dX9_panel_43 (by decide) ?_
          refine lv_iadd hx hb dX9_panel_44 ?_
          have hi_3 := (rc_ix hm).1
          replace hm := (rc_ix hm).2
          refine rc_ialdj (j := (((63 : Int32) + ((2 : Int32) * v1)) + (1 : Int32)).toNatClampNeg) hx hb hK hW (rc_t_10_1 hT h0) (by decide) rfl hi_3 rfl dX9_panel_45 ?_
          refine lv_iconst (v := 1) hx hb dX9_panel_46 (by decide) ?_
          refine lv_icmp_ne (tgt := 55) hx hb dX9_panel_47 (by decide) (fun c_12 => ?_) (fun c_12 => ?_)
          · replace hm := rc_f hm c_12
            refine lv_bipush (v := 109) hx hb dX9_panel_55 (by decide) ?_
            obtain ⟨w_4, σ_4, hc_4, hm0⟩ := rc_bd_inv hm
            clear hm
            refine rc_cv hS (va_runV (As := [.int (109 : Int32)]) (rest := []) ⟨hx, hb, hml, hown, hts⟩ (k_X9_writes l hT a0 (109 : Int32) h0 H.size _ _ _ hc_4) (cwV 1 hts (rc_gV tw_8_193 tw_8_195 tw_p_56 tw_1_14 tw_8_196) rfl rfl rfl (by decide +kernel) ⟨Nat.le_of_ble_eq_true rfl, Nat.le_of_ble_eq_true rfl⟩) (rc_preV hT hW hK hE hS h0 (by decide) rfl (q := (RX9, TX9, 22)) rfl [.int (109 : Int32)]) rfl rfl hl.1 rfl (lv_room (Nat.le_of_ble_eq_true rfl)) dX9_panel_57 ⟨Nat.le_of_ble_eq_true rfl, Nat.le_of_ble_eq_true rfl⟩) (fun H locs hW hS => ?_)
            have hm := hm0
            clear hm0 hc_4
            refine lv_aload_n hx hb dX9_panel_60 rfl (lv_at hl 0 rfl) ?_
            refine lv_aload_n hx hb dX9_panel_61 rfl (lv_at hl 0 rfl) ?_
            refine rg_10_1 hx hb hts hown hK hW h0 tw_7_70 dX9_panel_62 ?_
            refine lv_bipush (v := 63) hx hb dX9_panel_65 (by decide) ?_
            refine lv_iconst (v := 2) hx hb dX9_panel_67 (by decide) ?_
            refine lv_iload_n hx hb dX9_panel_68 rfl (lv_at hl 1 rfl) ?_
            refine lv_imul hx hb dX9_panel_69 ?_
            refine lv_iadd hx hb dX9_panel_70 ?_
            have hi_5 := (rc_ix hm).1
            replace hm := (rc_ix hm).2
            refine rc_ialdj (j := ((63 : Int32) + ((2 : Int32) * v1)).toNatClampNeg) hx hb hK hW (rc_t_10_1 hT h0) (by decide) rfl hi_5 rfl dX9_panel_71 ?_
            obtain ⟨w_6, σ_6, hc_6, hm0⟩ := rc_bd_inv hm
            clear hm
            refine rc_cv hS (va_runV (As := [.int (σ_4 (rf a0 1) ((63 : Int32) + ((2 : Int32) * v1)).toNatClampNeg)]) (rest := []) ⟨hx, hb, hml, hown, hts⟩ (k_X9_writesNumber l hT a0 (σ_4 (rf a0 1) ((63 : Int32) + ((2 : Int32) * v1)).toNatClampNeg) h0 H.size _ _ _ hc_6) (cwV 1 hts (rc_gV tw_8_189 tw_8_191 tw_p_55 tw_1_14 tw_8_192) rfl rfl rfl (by decide +kernel) ⟨Nat.le_of_ble_eq_true rfl, Nat.le_of_ble_eq_true rfl⟩) (rc_preV hT hW hK hE hS h0 (by decide) rfl (q := (RX9, TX9, 22)) rfl [.int (σ_4 (rf a0 1) ((63 : Int32) + ((2 : Int32) * v1)).toNatClampNeg)]) rfl rfl hl.1 rfl (lv_room (Nat.le_of_ble_eq_true rfl)) dX9_panel_72 ⟨Nat.le_of_ble_eq_true rfl, Nat.le_of_ble_eq_true rfl⟩) (fun H locs hW hS => ?_)
            have hm := hm0
            clear hm0 hc_6
            obtain ⟨v1_7, ev⟩ : ∃ y : Int32, y = (v1 + 1) := ⟨_, rfl⟩
            replace hm := rc_lt_at hm ev
            refine lv_iinc (v := v1_7) (lv' := [(1, .int v1_7), (0, .ref a0)]) hx hb dX9_panel_75 hl (k := 1) rfl (by rw [ev]; rfl) (by decide) rfl (fun ls hl => ?_)
            clear ev
            refine lv_goto (tgt := 12) hx hb dX9_panel_78 (by decide) ?_
            exact ih v1_7 σ_6 _ _ _ hm hW hS (lv_sub hl [1, 0] rfl)
          · replace hm := rc_t hm c_12
            refine lv_bipush (v := 116) hx hb dX9_panel_50 (by decide) ?_
            refine lv_goto (tgt := 57) hx hb dX9_panel_52 (by decide) ?_
            obtain ⟨w_8, σ_8, hc_8, hm0⟩ := rc_bd_inv hm
            clear hm
            refine rc_cv hS (va_runV (As := [.int (116 : Int32)]) (rest := []) ⟨hx, hb, hml, hown, hts⟩ (k_X9_writes l hT a0 (116 : Int32) h0 H.size _ _ _ hc_8) (cwV 1 hts (rc_gV tw_8_193 tw_8_195 tw_p_56 tw_1_14 tw_8_196) rfl rfl rfl (by decide +kernel) ⟨Nat.le_of_ble_eq_true rfl, Nat.le_of_ble_eq_true rfl⟩) (rc_preV hT hW hK hE hS h0 (by decide) rfl (q := (RX9, TX9, 22)) rfl [.int (116 : Int32)]) rfl rfl hl.1 rfl (lv_room (Nat.le_of_ble_eq_true rfl)) dX9_panel_57 ⟨Nat.le_of_ble_eq_true rfl, Nat.le_of_ble_eq_true rfl⟩) (fun H locs hW hS => ?_)
            have hm := hm0
            clear hm0 hc_8
            refine lv_aload_n hx hb dX9_panel_60 rfl (lv_at hl 0 rfl) ?_
            refine lv_aload_n hx hb dX9_panel_61 rfl (lv_at hl 0 rfl) ?_
            refine rg_10_1 hx hb hts hown hK hW h0 tw_7_70 dX9_panel_62 ?_
            refine lv_bipush (v := 63) hx hb dX9_panel_65 (by decide) ?_
            refine lv_iconst (v := 2) hx hb dX9_panel_67 (by decide) ?_
            refine lv_iload_n hx hb dX9_panel_68 rfl (lv_at hl 1 rfl) ?_
            refine lv_imul hx hb dX9_panel_69 ?_
            refine lv_iadd hx hb dX9_panel_70 ?_
            have hi_9 := (rc_ix hm).1
            replace hm := (rc_ix hm).2
            refine rc_ialdj (j := ((63 : Int32) + ((2 : Int32) * v1)).toNatClampNeg) hx hb hK hW (rc_t_10_1 hT h0) (by decide) rfl hi_9 rfl dX9_panel_71 ?_
            obtain ⟨w_10, σ_10, hc_10, hm0⟩ := rc_bd_inv hm
            clear hm
            refine rc_cv hS (va_runV (As := [.int (σ_8 (rf a0 1) ((63 : Int32) + ((2 : Int32) * v1)).toNatClampNeg)]) (rest := []) ⟨hx, hb, hml, hown, hts⟩ (k_X9_writesNumber l hT a0 (σ_8 (rf a0 1) ((63 : Int32) + ((2 : Int32) * v1)).toNatClampNeg) h0 H.size _ _ _ hc_10) (cwV 1 hts (rc_gV tw_8_189 tw_8_191 tw_p_55 tw_1_14 tw_8_192) rfl rfl rfl (by decide +kernel) ⟨Nat.le_of_ble_eq_true rfl, Nat.le_of_ble_eq_true rfl⟩) (rc_preV hT hW hK hE hS h0 (by decide) rfl (q := (RX9, TX9, 22)) rfl [.int (σ_8 (rf a0 1) ((63 : Int32) + ((2 : Int32) * v1)).toNatClampNeg)]) rfl rfl hl.1 rfl (lv_room (Nat.le_of_ble_eq_true rfl)) dX9_panel_72 ⟨Nat.le_of_ble_eq_true rfl, Nat.le_of_ble_eq_true rfl⟩) (fun H locs hW hS => ?_)
            have hm := hm0
            clear hm0 hc_10
            obtain ⟨v1_11, ev⟩ : ∃ y : Int32, y = (v1 + 1) := ⟨_, rfl⟩
            replace hm := rc_lt_at hm ev
            refine lv_iinc (v := v1_11) (lv' := [(1, .int v1_11), (0, .ref a0)]) hx hb dX9_panel_75 hl (k := 1) rfl (by rw [ev]; rfl) (by decide) rfl (fun ls hl => ?_)
            clear ev
            refine lv_goto (tgt := 12) hx hb dX9_panel_78 (by decide) ?_
            exact ih v1_11 σ_10 _ _ _ hm hW hS (lv_sub hl [1, 0] rfl)
        · replace hm := rc_f hm c_24
          refine lv_aload_n hx hb dX9_panel_26 rfl (lv_at hl 0 rfl) ?_
          refine lv_bipush (v := 32) hx hb dX9_panel_27 (by decide) ?_
          obtain ⟨w_13, σ_13, hc_13, hm0⟩ := rc_bd_inv hm
          clear hm
          refine rc_cv hS (va_runV (As := [.int (32 : Int32)]) (rest := []) ⟨hx, hb, hml, hown, hts⟩ (k_X9_writes l hT a0 (32 : Int32) h0 H.size _ _ _ hc_13) (cwV 1 hts (rc_gV tw_8_193 tw_8_195 tw_p_56 tw_1_14 tw_8_196) rfl rfl rfl (by decide +kernel) ⟨Nat.le_of_ble_eq_true rfl, Nat.le_of_ble_eq_true rfl⟩) (rc_preV hT hW hK hE hS h0 (by decide) rfl (q := (RX9, TX9, 22)) rfl [.int (32 : Int32)]) rfl rfl hl.1 rfl (lv_room (Nat.le_of_ble_eq_true rfl)) dX9_panel_29 ⟨Nat.le_of_ble_eq_true rfl, Nat.le_of_ble_eq_true rfl⟩) (fun H locs hW hS => ?_)
          have hm := hm0
          clear hm0 hc_13
          refine lv_aload_n hx hb dX9_panel_32 rfl (lv_at hl 0 rfl) ?_
          refine lv_aload_n hx hb dX9_panel_33 rfl (lv_at hl 0 rfl) ?_
          refine rg_10_1 hx hb hts hown hK hW h0 tw_7_70 dX9_panel_34 ?_
          refine lv_bipush (v := 63) hx hb dX9_panel_37 (by decide) ?_
          refine lv_iconst (v := 2) hx hb dX9_panel_39 (by decide) ?_
          refine lv_iload_n hx hb dX9_panel_40 rfl (lv_at hl 1 rfl) ?_
          refine lv_imul hx hb dX9_panel_41 ?_
          refine lv_iadd hx hb dX9_panel_42 ?_
          refine lv_iconst (v := 1) hx hb dX9_panel_43 (by decide) ?_
          refine lv_iadd hx hb dX9_panel_44 ?_
          have hi_14 := (rc_ix hm).1
          replace hm := (rc_ix hm).2
          refine rc_ialdj (j := (((63 : Int32) + ((2 : Int32) * v1)) + (1 : Int32)).toNatClampNeg) hx hb hK hW (rc_t_10_1 hT h0) (by decide) rfl hi_14 rfl dX9_panel_45 ?_
          refine lv_iconst (v := 1) hx hb dX9_panel_46 (by decide) ?_
          refine lv_icmp_ne (tgt := 55) hx hb dX9_panel_47 (by decide) (fun c_23 => ?_) (fun c_23 => ?_)
          · replace hm := rc_f hm c_23
            refine lv_bipush (v := 109) hx hb dX9_panel_55 (by decide) ?_
            obtain ⟨w_15, σ_15, hc_15, hm0⟩ := rc_bd_inv hm
            clear hm
            refine rc_cv hS (va_runV (As := [.int (109 : Int32)]) (rest := []) ⟨hx, hb, hml, hown, hts⟩ (k_X9_writes l hT a0 (109 : Int32) h0 H.size _ _ _ hc_15) (cwV 1 hts (rc_gV tw_8_193 tw_8_195 tw_p_56 tw_1_14 tw_8_196) rfl rfl rfl (by decide +kernel) ⟨Nat.le_of_ble_eq_true rfl, Nat.le_of_ble_eq_true rfl⟩) (rc_preV hT hW hK hE hS h0 (by decide) rfl (q := (RX9, TX9, 22)) rfl [.int (109 : Int32)]) rfl rfl hl.1 rfl (lv_room (Nat.le_of_ble_eq_true rfl)) dX9_panel_57 ⟨Nat.le_of_ble_eq_true rfl, Nat.le_of_ble_eq_true rfl⟩) (fun H locs hW hS => ?_)
            have hm := hm0
            clear hm0 hc_15
            refine lv_aload_n hx hb dX9_panel_60 rfl (lv_at hl 0 rfl) ?_
            refine lv_aload_n hx hb dX9_panel_61 rfl (lv_at hl 0 rfl) ?_
            refine rg_10_1 hx hb hts hown hK hW h0 tw_7_70 dX9_panel_62 ?_
            refine lv_bipush (v := 63) hx hb dX9_panel_65 (by decide) ?_
            refine lv_iconst (v := 2) hx hb dX9_panel_67 (by decide) ?_
            refine lv_iload_n hx hb dX9_panel_68 rfl (lv_at hl 1 rfl) ?_
            refine lv_imul hx hb dX9_panel_69 ?_
            refine lv_iadd hx hb dX9_panel_70 ?_
            have hi_16 := (rc_ix hm).1
            replace hm := (rc_ix hm).2
            refine rc_ialdj (j := ((63 : Int32) + ((2 : Int32) * v1)).toNatClampNeg) hx hb hK hW (rc_t_10_1 hT h0) (by decide) rfl hi_16 rfl dX9_panel_71 ?_
            obtain ⟨w_17, σ_17, hc_17, hm0⟩ := rc_bd_inv hm
            clear hm
            refine rc_cv hS (va_runV (As := [.int (σ_15 (rf a0 1) ((63 : Int32) + ((2 : Int32) * v1)).toNatClampNeg)]) (rest := []) ⟨hx, hb, hml, hown, hts⟩ (k_X9_writesNumber l hT a0 (σ_15 (rf a0 1) ((63 : Int32) + ((2 : Int32) * v1)).toNatClampNeg) h0 H.size _ _ _ hc_17) (cwV 1 hts (rc_gV tw_8_189 tw_8_191 tw_p_55 tw_1_14 tw_8_192) rfl rfl rfl (by decide +kernel) ⟨Nat.le_of_ble_eq_true rfl, Nat.le_of_ble_eq_true rfl⟩) (rc_preV hT hW hK hE hS h0 (by decide) rfl (q := (RX9, TX9, 22)) rfl [.int (σ_15 (rf a0 1) ((63 : Int32) + ((2 : Int32) * v1)).toNatClampNeg)]) rfl rfl hl.1 rfl (lv_room (Nat.le_of_ble_eq_true rfl)) dX9_panel_72 ⟨Nat.le_of_ble_eq_true rfl, Nat.le_of_ble_eq_true rfl⟩) (fun H locs hW hS => ?_)
            have hm := hm0
            clear hm0 hc_17
            obtain ⟨v1_18, ev⟩ : ∃ y : Int32, y = (v1 + 1) := ⟨_, rfl⟩
            replace hm := rc_lt_at hm ev
            refine lv_iinc (v := v1_18) (lv' := [(1, .int v1_18), (0, .ref a0)]) hx hb dX9_panel_75 hl (k := 1) rfl (by rw [ev]; rfl) (by decide) rfl (fun ls hl => ?_)
            clear ev
            refine lv_goto (tgt := 12) hx hb dX9_panel_78 (by decide) ?_
            exact ih v1_18 σ_17 _ _ _ hm hW hS (lv_sub hl [1, 0] rfl)
          · replace hm := rc_t hm c_23
            refine lv_bipush (v := 116) hx hb dX9_panel_50 (by decide) ?_
            refine lv_goto (tgt := 57) hx hb dX9_panel_52 (by decide) ?_
            obtain ⟨w_19, σ_19, hc_19, hm0⟩ := rc_bd_inv hm
            clear hm
            refine rc_cv hS (va_runV (As := [.int (116 : Int32)]) (rest := []) ⟨hx, hb, hml, hown, hts⟩ (k_X9_writes l hT a0 (116 : Int32) h0 H.size _ _ _ hc_19) (cwV 1 hts (rc_gV tw_8_193 tw_8_195 tw_p_56 tw_1_14 tw_8_196) rfl rfl rfl (by decide +kernel) ⟨Nat.le_of_ble_eq_true rfl, Nat.le_of_ble_eq_true rfl⟩) (rc_preV hT hW hK hE hS h0 (by decide) rfl (q := (RX9, TX9, 22)) rfl [.int (116 : Int32)]) rfl rfl hl.1 rfl (lv_room (Nat.le_of_ble_eq_true rfl)) dX9_panel_57 ⟨Nat.le_of_ble_eq_true rfl, Nat.le_of_ble_eq_true rfl⟩) (fun H locs hW hS => ?_)
            have hm := hm0
            clear hm0 hc_19
            refine lv_aload_n hx hb dX9_panel_60 rfl (lv_at hl 0 rfl) ?_
            refine lv_aload_n hx hb dX9_panel_61 rfl (lv_at hl 0 rfl) ?_
            refine rg_10_1 hx hb hts hown hK hW h0 tw_7_70 dX9_panel_62 ?_
            refine lv_bipush (v := 63) hx hb dX9_panel_65 (by decide) ?_
            refine lv_iconst (v := 2) hx hb dX9_panel_67 (by decide) ?_
            refine lv_iload_n hx hb dX9_panel_68 rfl (lv_at hl 1 rfl) ?_
            refine lv_imul hx hb dX9_panel_69 ?_
            refine lv_iadd hx hb dX9_panel_70 ?_
            have hi_20 := (rc_ix hm).1
            replace hm := (rc_ix hm).2
            refine rc_ialdj (j := ((63 : Int32) + ((2 : Int32) * v1)).toNatClampNeg) hx hb hK hW (rc_t_10_1 hT h0) (by decide) rfl hi_20 rfl dX9_panel_71 ?_
            obtain ⟨w_21, σ_21, hc_21, hm0⟩ := rc_bd_inv hm
            clear hm
            refine rc_cv hS (va_runV (As := [.int (σ_19 (rf a0 1) ((63 : Int32) + ((2 : Int32) * v1)).toNatClampNeg)]) (rest := []) ⟨hx, hb, hml, hown, hts⟩ (k_X9_writesNumber l hT a0 (σ_19 (rf a0 1) ((63 : Int32) + ((2 : Int32) * v1)).toNatClampNeg) h0 H.size _ _ _ hc_21) (cwV 1 hts (rc_gV tw_8_189 tw_8_191 tw_p_55 tw_1_14 tw_8_192) rfl rfl rfl (by decide +kernel) ⟨Nat.le_of_ble_eq_true rfl, Nat.le_of_ble_eq_true rfl⟩) (rc_preV hT hW hK hE hS h0 (by decide) rfl (q := (RX9, TX9, 22)) rfl [.int (σ_19 (rf a0 1) ((63 : Int32) + ((2 : Int32) * v1)).toNatClampNeg)]) rfl rfl hl.1 rfl (lv_room (Nat.le_of_ble_eq_true rfl)) dX9_panel_72 ⟨Nat.le_of_ble_eq_true rfl, Nat.le_of_ble_eq_true rfl⟩) (fun H locs hW hS => ?_)
            have hm := hm0
            clear hm0 hc_21
            obtain ⟨v1_22, ev⟩ : ∃ y : Int32, y = (v1 + 1) := ⟨_, rfl⟩
            replace hm := rc_lt_at hm ev
            refine lv_iinc (v := v1_22) (lv' := [(1, .int v1_22), (0, .ref a0)]) hx hb dX9_panel_75 hl (k := 1) rfl (by rw [ev]; rfl) (by decide) rfl (fun ls hl => ?_)
            clear ev
            refine lv_goto (tgt := 12) hx hb dX9_panel_78 (by decide) ?_
            exact ih v1_22 σ_21 _ _ _ hm hW hS (lv_sub hl [1, 0] rfl)
  unfold f_X9_panel at hm
  refine lv_aload_n hx hb dX9_panel_0 rfl (lv_at hl 0 rfl) ?_
  refine lv_iconst (v := 0) hx hb dX9_panel_1 (by decide) ?_
  refine rp_10_0 hx hb hts hown hK hW hS h0 tw_7_69 dX9_panel_2 (fun σ_1 H locs eσ hW hS => ?_)
  replace hm := rc_lt_at hm eσ
  clear eσ
  refine lv_aload_n hx hb dX9_panel_5 rfl (lv_at hl 0 rfl) ?_
  refine lv_iconst (v := 0) hx hb dX9_panel_6 (by decide) ?_
  refine rp_10_11 hx hb hts hown hK hW hS h0 tw_7_80 dX9_panel_7 (fun σ_2 H locs eσ hW hS => ?_)
  replace hm := rc_lt_at hm eσ
  clear eσ
  refine lv_iconst (v := 0) hx hb dX9_panel_10 (by decide) ?_
  refine lv_istore_n (lv' := [(1, .int (0 : Int32)), (0, .ref a0)]) hx hb dX9_panel_11 rfl hl (by decide) rfl (fun ls hl => ?_)
  refine lp_12 _ (fun v1_26 σ_27 H locs ls hm hW hS hl => ?_) rc_fu (0 : Int32) σ_2 _ _ _ hm hW hS (lv_sub hl [1, 0] rfl)
  refine lv_aload_n hx hb dX9_panel_81 rfl (lv_at hl 0 rfl) ?_
  refine rg_10_11 hx hb hts hown hK hW h0 tw_7_80 dX9_panel_82 ?_
  exact rc_eiret hx hb hr hlocks hW hS (Nat.le_of_ble_eq_true rfl) (Nat.le_of_ble_eq_true rfl) hm dX9_panel_85
