def f_X9_leaves_33 (rf : rc_F) (a0 : Nat) (v2 : Int32) (K : Int32 → rc_S → Option (Int32 × rc_S)) : Nat → Int32 → rc_S → Option (Int32 × rc_S)
  | 0, _, _ => none
  | n + 1, v3, σ =>
    if ((2 : Int32) * v2) ≤ v3 then
      K v3 σ
    else
      rc_ck (rc_in (((63 : Int32) + v3) + (2 : Int32)) 107) <|
      rc_ck (rc_in ((63 : Int32) + v3) 107) <|
      rc_lt (rc_up σ (rf a0 1) ((63 : Int32) + v3).toNatClampNeg (σ (rf a0 1) (((63 : Int32) + v3) + (2 : Int32)).toNatClampNeg)) fun σ_6 =>
      rc_lt (v3 + 1) fun v3_7 =>
      f_X9_leaves_33 rf a0 v2 K n v3_7 σ_6
def f_X9_leaves (rf : rc_F) (a0 : Nat) (u1 : Int32) (σ : rc_S) : Option (Int32 × rc_S) :=
  rc_bd (f_X9_isSommelier rf a0 u1 σ) fun w_1 σ_1 =>
  if w_1 = 0 then
    rc_bd (f_X9_refused rf a0 (4 : Int32) (σ_1 (rf a0 1) 1) σ_1) fun w_17 σ_17 =>
    some (w_17, σ_17)
  else
    rc_lt ((σ_1 (rf a0 1) 1) - (1 : Int32)) fun v2_2 =>
    rc_lt ((2 : Int32) * u1) fun v3_3 =>
    f_X9_leaves_33 rf a0 v2_2 (fun v3_9 σ_10 =>
      rc_ck (rc_in ((63 : Int32) + ((2 : Int32) * v2_2)) 107) <|
      rc_lt (rc_up σ_10 (rf a0 1) ((63 : Int32) + ((2 : Int32) * v2_2)).toNatClampNeg (0 : Int32)) fun σ_12 =>
      rc_ck (rc_in (((63 : Int32) + ((2 : Int32) * v2_2)) + (1 : Int32)) 107) <|
      rc_lt (rc_up σ_12 (rf a0 1) (((63 : Int32) + ((2 : Int32) * v2_2)) + (1 : Int32)).toNatClampNeg (0 : Int32)) fun σ_14 =>
      rc_lt (rc_up σ_14 (rf a0 1) 1 v2_2) fun σ_15 =>
      rc_bd (f_X9_done rf a0 v2_2 σ_15) fun w_16 σ_16 =>
      some (w_16, σ_16)
    ) rc_fu v3_3 σ_1
def f_X9_drinks (rf : rc_F) (a0 : Nat) (u1 : Int32) (σ : rc_S) : Option (Int32 × rc_S) :=
  rc_bd (f_X9_isBarrel rf a0 u1 σ) fun w_1 σ_1 =>
  if w_1 = 0 then
    rc_bd (f_X9_refused rf a0 (3 : Int32) (σ_1 (rf a0 1) 0) σ_1) fun w_24 σ_24 =>
    some (w_24, σ_24)
  else
    rc_lt (σ_1 (rf a0 1) 1) fun v2_2 =>
    if v2_2 = 0 then
      rc_bd (f_X9_refused rf a0 (11 : Int32) (0 : Int32) σ_1) fun w_22 σ_22 =>
      some (w_22, σ_22)
    else
      rc_bd (f_X9_of rf a0 u1 (1 : Int32) σ_1) fun w_3 σ_3 =>
      if v2_2 ≤ w_3 then
        rc_bd (f_X9_part rf a0 u1 σ_3) fun w_4 σ_4 =>
        rc_bd (f_X9_noses rf a0 w_4 σ_4) fun w_5 σ_5 =>
        if w_5 = 0 then
          rc_bd (f_X9_noteOf rf a0 u1 (0 : Int32) σ_5) fun w_6 σ_6 =>
          rc_lt (rc_up σ_6 (rf a0 1) 8 ((σ_6 (rf a0 1) 8) + v2_2)) fun σ_7 =>
          rc_bd (f_X9_hailIn rf a0 u1 v2_2 σ_7) fun w_8 σ_8 =>
          rc_bd (f_X9_goes rf a0 u1 v2_2 w_8 σ_8) fun _ σ_9 =>
          rc_bd (f_X9_done rf a0 (w_6 * v2_2) σ_9) fun w_10 σ_10 =>
          some (w_10, σ_10)
        else
          rc_bd (f_X9_noteOf rf a0 u1 (0 : Int32) σ_5) fun w_11 σ_11 =>
          rc_lt (rc_up σ_11 (rf a0 1) 8 ((σ_11 (rf a0 1) 8) + v2_2)) fun σ_12 =>
          rc_bd (f_X9_of rf a0 u1 (1 : Int32) σ_12) fun w_13 σ_13 =>
          rc_lt (rc_up σ_13 (rf a0 1) 9 ((σ_12 (rf a0 1) 9) + (w_13 - v2_2))) fun σ_14 =>
          rc_lt (rc_up σ_14 (rf a0 1) 10 ((σ_14 (rf a0 1) 10) + (1 : Int32))) fun σ_15 =>
          rc_bd (f_X9_empties rf a0 u1 σ_15) fun _ σ_16 =>
          rc_bd (f_X9_done rf a0 (0 : Int32) σ_16) fun w_17 σ_17 =>
          some (w_17, σ_17)
      else
        rc_bd (f_X9_of rf a0 u1 (1 : Int32) σ_3) fun w_19 σ_19 =>
        rc_bd (f_X9_refused rf a0 (6 : Int32) w_19 σ_19) fun w_20 σ_20 =>
        some (w_20, σ_20)
def f_X9_clears (rf : rc_F) (a0 : Nat) (u1 : Int32) (σ : rc_S) : Option (Int32 × rc_S) :=
  rc_bd (f_X9_in rf u1 (0 : Int32) (3 : Int32) σ) fun w_1 σ_1 =>
  if w_1 = 0 then
    rc_bd (f_X9_refused rf a0 (1 : Int32) (0 : Int32) σ_1) fun w_9 σ_9 =>
    some (w_9, σ_9)
  else
    rc_ck (rc_in ((11 : Int32) + u1) 107) <|
    rc_lt (σ_1 (rf a0 1) ((11 : Int32) + u1).toNatClampNeg) fun v2_3 =>
    if v2_3 = 0 then
      rc_bd (f_X9_refused rf a0 (12 : Int32) u1 σ_1) fun w_7 σ_7 =>
      some (w_7, σ_7)
    else
      rc_ck (rc_in ((11 : Int32) + u1) 107) <|
      rc_lt (rc_up σ_1 (rf a0 1) ((11 : Int32) + u1).toNatClampNeg (0 : Int32)) fun σ_5 =>
      rc_bd (f_X9_done rf a0 v2_3 σ_5) fun w_6 σ_6 =>
      some (w_6, σ_6)
def f_X9_passes_26 (rf : rc_F) (a0 : Nat) (v1 : Int32) (K : Int32 → rc_S → Option (Int32 × rc_S)) : Nat → Int32 → rc_S → Option (Int32 × rc_S)
  | 0, _, _ => none
  | n + 1, v2, σ =>
    if (4 : Int32) ≤ v2 then
      K v2 σ
    else
      rc_ck (rc_in ((11 : Int32) + v2) 107) <|
      if (σ (rf a0 1) ((11 : Int32) + v2).toNatClampNeg) = (9 : Int32) then
        rc_ck (rc_in ((11 : Int32) + v2) 107) <|
        rc_lt (rc_up σ (rf a0 1) ((11 : Int32) + v2).toNatClampNeg (9 : Int32)) fun σ_10 =>
        rc_lt (v2 + 1) fun v2_11 =>
        f_X9_passes_26 rf a0 v1 K n v2_11 σ_10
      else
        rc_ck (rc_in ((11 : Int32) + v2) 107) <|
        rc_ck (rc_in ((11 : Int32) + v2) 107) <|
        rc_lt (rc_up σ (rf a0 1) ((11 : Int32) + v2).toNatClampNeg ((σ (rf a0 1) ((11 : Int32) + v2).toNatClampNeg) + (1 : Int32))) fun σ_7 =>
        rc_lt (v2 + 1) fun v2_8 =>
        f_X9_passes_26 rf a0 v1 K n v2_8 σ_7
def f_X9_passes (rf : rc_F) (a0 : Nat) (σ : rc_S) : Option (Int32 × rc_S) :=
  rc_lt (σ (rf a0 1) 2) fun v1_1 =>
  rc_lt (rc_up σ (rf a0 1) 3 ((σ (rf a0 1) 3) + (1 : Int32))) fun σ_2 =>
  rc_lt (rc_up σ_2 (rf a0 1) 2 (0 : Int32)) fun σ_3 =>
  f_X9_passes_26 rf a0 v1_1 (fun v2_14 σ_15 =>
    rc_bd (f_X9_done rf a0 v1_1 σ_15) fun w_16 σ_16 =>
    some (w_16, σ_16)
  ) rc_fu (0 : Int32) σ_3
def f_X9_storm (rf : rc_F) (a0 : Nat) (u1 : Int32) (u2 : Int32) (σ : rc_S) : Option (Int32 × rc_S) :=
  rc_bd (f_X9_remembers rf a0 σ) fun _ σ_1 =>
  rc_bd (f_X9_storms rf a0 u1 u2 σ_1) fun w_2 σ_2 =>
  rc_bd (f_X9_ends rf a0 w_2 σ_2) fun w_3 σ_3 =>
  some (w_3, σ_3)
def f_X9_barrel (rf : rc_F) (a0 : Nat) (u1 : Int32) (σ : rc_S) : Option (Int32 × rc_S) :=
  rc_bd (f_X9_remembers rf a0 σ) fun _ σ_1 =>
  rc_bd (f_X9_places rf a0 u1 σ_1) fun w_2 σ_2 =>
  rc_bd (f_X9_ends rf a0 w_2 σ_2) fun w_3 σ_3 =>
  some (w_3, σ_3)
def f_X9_takeAway (rf : rc_F) (a0 : Nat) (u1 : Int32) (σ : rc_S) : Option (Int32 × rc_S) :=
  rc_bd (f_X9_remembers rf a0 σ) fun _ σ_1 =>
  rc_bd (f_X9_takes rf a0 u1 σ_1) fun w_2 σ_2 =>
  rc_bd (f_X9_ends rf a0 w_2 σ_2) fun w_3 σ_3 =>
  some (w_3, σ_3)
def f_X9_pour (rf : rc_F) (a0 : Nat) (u1 : Int32) (u2 : Int32) (u3 : Int32) (σ : rc_S) : Option (Int32 × rc_S) :=
  rc_bd (f_X9_remembers rf a0 σ) fun _ σ_1 =>
  rc_bd (f_X9_pours rf a0 u1 u2 u3 σ_1) fun w_2 σ_2 =>
  rc_bd (f_X9_ends rf a0 w_2 σ_2) fun w_3 σ_3 =>
  some (w_3, σ_3)
def f_X9_hail (rf : rc_F) (a0 : Nat) (u1 : Int32) (u2 : Int32) (σ : rc_S) : Option (Int32 × rc_S) :=
  rc_bd (f_X9_remembers rf a0 σ) fun _ σ_1 =>
  rc_bd (f_X9_adulterates rf a0 u1 u2 σ_1) fun w_2 σ_2 =>
  rc_bd (f_X9_ends rf a0 w_2 σ_2) fun w_3 σ_3 =>
  some (w_3, σ_3)
def f_X9_sommelier (rf : rc_F) (a0 : Nat) (u1 : Int32) (u2 : Int32) (σ : rc_S) : Option (Int32 × rc_S) :=
  rc_bd (f_X9_remembers rf a0 σ) fun _ σ_1 =>
  if u2 = 0 then
    rc_bd (f_X9_joins rf a0 u1 (0 : Int32) σ_1) fun w_2 σ_2 =>
    rc_bd (f_X9_ends rf a0 w_2 σ_2) fun w_3 σ_3 =>
    some (w_3, σ_3)
  else
    rc_bd (f_X9_joins rf a0 u1 (1 : Int32) σ_1) fun w_4 σ_4 =>
    rc_bd (f_X9_ends rf a0 w_4 σ_4) fun w_5 σ_5 =>
    some (w_5, σ_5)
def f_X9_leave (rf : rc_F) (a0 : Nat) (u1 : Int32) (σ : rc_S) : Option (Int32 × rc_S) :=
  rc_bd (f_X9_remembers rf a0 σ) fun _ σ_1 =>
  rc_bd (f_X9_leaves rf a0 u1 σ_1) fun w_2 σ_2 =>
  rc_bd (f_X9_ends rf a0 w_2 σ_2) fun w_3 σ_3 =>
  some (w_3, σ_3)
def f_X9_drink (rf : rc_F) (a0 : Nat) (u1 : Int32) (σ : rc_S) : Option (Int32 × rc_S) :=
  rc_bd (f_X9_remembers rf a0 σ) fun _ σ_1 =>
  rc_bd (f_X9_drinks rf a0 u1 σ_1) fun w_2 σ_2 =>
  rc_bd (f_X9_ends rf a0 w_2 σ_2) fun w_3 σ_3 =>
  some (w_3, σ_3)
def f_X9_clear (rf : rc_F) (a0 : Nat) (u1 : Int32) (σ : rc_S) : Option (Int32 × rc_S) :=
  rc_bd (f_X9_remembers rf a0 σ) fun _ σ_1 =>
  rc_bd (f_X9_clears rf a0 u1 σ_1) fun w_2 σ_2 =>
  rc_bd (f_X9_ends rf a0 w_2 σ_2) fun w_3 σ_3 =>
  some (w_3, σ_3)
def f_X9_year (rf : rc_F) (a0 : Nat) (σ : rc_S) : Option (Int32 × rc_S) :=
  rc_bd (f_X9_remembers rf a0 σ) fun _ σ_1 =>
  rc_bd (f_X9_passes rf a0 σ_1) fun w_2 σ_2 =>
  rc_bd (f_X9_ends rf a0 w_2 σ_2) fun w_3 σ_3 =>
  some (w_3, σ_3)
def f_X9_under_5 (rf : rc_F) (a0 : Nat) (v1 : Int32) (v2 : Int32) (K : Int32 → Int32 → rc_S → Option (Int32 × rc_S)) : Nat → Int32 → Int32 → rc_S → Option (Int32 × rc_S)
  | 0, _, _, _ => none
  | n + 1, v3, v4, σ =>
    if (σ (rf a0 1) 0) ≤ v4 then
      K v3 v4 σ
    else
      rc_bd (f_X9_of rf a0 v4 (0 : Int32) σ) fun w_1 σ_1 =>
      if w_1 = v1 then
        if v2 = (1 : Int32) then
          rc_lt (v3 + (1 : Int32)) fun v3_12 =>
          rc_lt (v4 + 1) fun v4_13 =>
          f_X9_under_5 rf a0 v1 v2 K n v3_12 v4_13 σ_1
        else
          if v2 = (2 : Int32) then
            rc_bd (f_X9_of rf a0 v4 (1 : Int32) σ_1) fun w_5 σ_5 =>
            if w_5 = 0 then
              rc_lt (v3 + (1 : Int32)) fun v3_8 =>
              rc_lt (v4 + 1) fun v4_9 =>
              f_X9_under_5 rf a0 v1 v2 K n v3_8 v4_9 σ_5
            else
              rc_lt (v3 + (0 : Int32)) fun v3_6 =>
              rc_lt (v4 + 1) fun v4_7 =>
              f_X9_under_5 rf a0 v1 v2 K n v3_6 v4_7 σ_5
          else
            rc_bd (f_X9_of rf a0 v4 (1 : Int32) σ_1) fun w_2 σ_2 =>
            rc_lt (v3 + w_2) fun v3_3 =>
            rc_lt (v4 + 1) fun v4_4 =>
            f_X9_under_5 rf a0 v1 v2 K n v3_3 v4_4 σ_2
      else
        rc_lt (v4 + 1) fun v4_15 =>
        f_X9_under_5 rf a0 v1 v2 K n v3 v4_15 σ_1
def f_X9_under (rf : rc_F) (a0 : Nat) (u1 : Int32) (u2 : Int32) (σ : rc_S) : Option (Int32 × rc_S) :=
  f_X9_under_5 rf a0 u1 u2 (fun v3_18 v4_19 σ_20 =>
    some (v3_18, σ_20)
  ) rc_fu (0 : Int32) (0 : Int32) σ
set_option maxHeartbeats 4000000 in
set_option maxRecDepth 100000 in
theorem k_X9_leaves (l : Launch) {Y : rc_Y} {sh : Nat → Nat} {rf : rc_F} (hT : rc_T Y sh rf) (a0 : Nat) (u1 : Int32) (h0 : sh a0 = 10) (sz : Nat) (σ σ' : rc_S) (r : Int32) (hm : f_X9_leaves rf a0 u1 σ = some (r, σ')) : Met l yX9_leaves (Cond.code yX9_leaves cX9_leaves 4 (some .int) :: rc_big) ({ frames := 2, cells := 0, slots := 0, locals := 43 } : Room) (rc_P Y sh rf σ sz [.ref a0, .int u1]) (va_Qi (fun (r' : Int32) (_ : Unit) => r' = r) (fun _ t => rc_W Y sh rf σ' t.heap) (rc_A sh sz)) 0 0 (rc_A sh sz) := by
  refine Met.ofW (cc := cX9_leaves) (maxL := 4) (ret := (some .int)) (by decide +kernel) rfl ?_
  intro p e s m args below meth c s₁ B hml hv
  obtain ⟨rfl, hsz, hW, hK, hE⟩ := hv
  have hx := B.exec
  have hb := B.bytes
  have hr := B.returns
  have hts : ∀ w ∈ rc_big, w.before _ s = true := fun w h => atoms_spec (ws := Cond.code yX9_leaves cX9_leaves 4 (some .int) :: rc_big) B.pre w (List.mem_cons_of_mem _ h)
  have hown : s.vm.findClass RX9 = some m.cls := findClass_of_methodNamed B.named
  have hlocks := B.notSynchronized
  clear B
  subst hsz
  have hS : va_S (rc_A sh s.heap.size) s.heap s.heap [] := va_S.rf
  have hl := lv_entry ([.ref a0, .int u1]) (n := 4) (Nat.le_of_ble_eq_true rfl)
  rw [lg_entry_eq]
  generalize (lg_sl ([.ref a0, .int u1]) ++ List.replicate (4 - (lg_sl ([.ref a0, .int u1])).length) Slot.unset).toArray = ls at hl ⊢
  have hl : lv_has ls 4 [(0, .ref a0), (1, .int u1)] := hl
  have lp_33 : ∀ (v2 : Int32) (K : Int32 → rc_S → Option (Int32 × rc_S)) (hKK : ∀ (v3 : Int32) (σ : rc_S) (H : Heap) (locs : List Loc) (ls : Array Slot), K v3 σ = some (r, σ') → rc_W Y sh rf σ H → va_S (rc_A sh s.heap.size) s.heap H locs → lv_has ls 4 [(0, .ref a0), (2, .int v2)] → W p l e (headSpec (Cond.code yX9_leaves cX9_leaves 4 (some .int) :: rc_big) ({ frames := 2, cells := 0, slots := 0, locals := 43 } : Room)).room s m (([.ref a0, .int u1] : List Value).toArray) below meth c H locs (0 + 0) (0 + 0) (MQ below (va_Qi (fun (r' : Int32) (_ : Unit) => r' = r) (fun _ t => rc_W Y sh rf σ' t.heap) (rc_A sh s.heap.size)) ([.ref a0, .int u1] : List Value).toArray s 0 0 (rc_A sh s.heap.size)) (F0 m 66 ls [])) (n : Nat) (v3 : Int32) (σ : rc_S) (H : Heap) (locs : List Loc) (ls : Array Slot), f_X9_leaves_33 rf a0 v2 K n v3 σ = some (r, σ') → rc_W Y sh rf σ H → va_S (rc_A sh s.heap.size) s.heap H locs → lv_has ls 4 [(0, .ref a0), (2, .int v2), (3, .int v3)] → W p l e (headSpec (Cond.code yX9_leaves cX9_leaves 4 (some .int) :: rc_big) ({ frames := 2, cells := 0, slots := 0, locals := 43 } : Room)).room s m (([.ref a0, .int u1] : List Value).toArray) below meth c H locs (0 + 0) (0 + 0) (MQ below (va_Qi (fun (r' : Int32) (_ : Unit) => r' = r) (fun _ t => rc_W Y sh rf σ' t.heap) (rc_A sh s.heap.size)) ([.ref a0, .int u1] : List Value).toArray s 0 0 (rc_A sh s.heap.size)) (F0 m 33 ls []) := by
    intro v2 K hKK n
    induction n with
    | zero =>
      intro v3 σ H locs ls hm
      rw [f_X9_leaves_33] at hm
      cases hm
    | succ n ih =>
      intro v3 σ H locs ls hm hW hS hl
      rw [f_X9_leaves_33] at hm
      refine lv_iload_n hx hb dX9_leaves_33 rfl (lv_at hl 2 rfl) ?_
      refine lv_iconst (v := 2) hx hb dX9_leaves_34 (by decide) ?_
      refine lv_iload_n hx hb dX9_leaves_35 rfl (lv_at hl 1 rfl) ?_
      refine lv_imul hx hb dX9_leaves_36 ?_
      refine lv_icmp_ge (tgt := 66) hx hb dX9_leaves_37 (by decide) (fun c_8 => ?_) (fun c_8 => ?_)
      · replace hm := rc_t hm c_8
        exact hKK v3 σ _ _ _ hm hW hS (lv_sub hl [0, 1] rfl)
      · replace hm := rc_f hm c_8
        refine lv_aload_n hx hb dX9_leaves_40 rfl (lv_at hl 0 rfl) ?_
        refine rg_10_1 hx hb hts hown hK hW h0 tw_7_70 dX9_leaves_41 ?_
        refine lv_bipush (v := 63) hx hb dX9_leaves_44 (by decide) ?_
        refine lv_iload_n hx hb dX9_leaves_46 rfl (lv_at hl 2 rfl) ?_
        refine lv_iadd hx hb dX9_leaves_47 ?_
        refine lv_aload_n hx hb dX9_leaves_48 rfl (lv_at hl 0 rfl) ?_
        refine rg_10_1 hx hb hts hown hK hW h0 tw_7_70 dX9_leaves_49 ?_
        refine lv_bipush (v := 63) hx hb dX9_leaves_52 (by decide) ?_
        refine lv_iload_n hx hb dX9_leaves_54 rfl (lv_at hl 2 rfl) ?_
        refine lv_iadd hx hb dX9_leaves_55 ?_
        refine lv_iconst (v := 2) hx hb dX9_leaves_56 (by decide) ?_
        refine lv_iadd hx hb dX9_leaves_57 ?_
        have hi_4 := (rc_ix hm).1
        replace hm := (rc_ix hm).2
        refine rc_ialdj (j := (((63 : Int32) + v3) + (2 : Int32)).toNatClampNeg) hx hb hK hW (rc_t_10_1 hT h0) (by decide) rfl hi_4 rfl dX9_leaves_58 ?_
        have hi_5 := (rc_ix hm).1
        replace hm := (rc_ix hm).2
        refine rc_iastj (j := ((63 : Int32) + v3).toNatClampNeg) hx hb hK hW hS (rc_t_10_1 hT h0) (by decide) (fun _ => rfl) hi_5 rfl dX9_leaves_59 (fun σ_6 H locs eσ hW hS => ?_)
        replace hm := rc_lt_at hm eσ
        clear eσ
        obtain ⟨v3_7, ev⟩ : ∃ y : Int32, y = (v3 + 1) := ⟨_, rfl⟩
        replace hm := rc_lt_at hm ev
        refine lv_iinc (v := v3_7) (lv' := [(3, .int v3_7), (0, .ref a0), (2, .int v2)]) hx hb dX9_leaves_60 hl (k := 2) rfl (by rw [ev]; rfl) (by decide) rfl (fun ls hl => ?_)
        clear ev
        refine lv_goto (tgt := 33) hx hb dX9_leaves_63 (by decide) ?_
        exact ih v3_7 σ_6 _ _ _ hm hW hS (lv_sub hl [1, 2, 0] rfl)
  unfold f_X9_leaves at hm
  refine lv_aload_n hx hb dX9_leaves_0 rfl (lv_at hl 0 rfl) ?_
  refine lv_iload_n hx hb dX9_leaves_1 rfl (lv_at hl 1 rfl) ?_
  obtain ⟨w_1, σ_1, hc_1, hm0⟩ := rc_bd_inv hm
  clear hm
  refine rc_ci hS (va_runV (As := [.int u1]) (rest := []) ⟨hx, hb, hml, hown, hts⟩ (k_X9_isSommelier l hT a0 u1 h0 s.heap.size _ _ _ hc_1) (cwV 1 hts (rc_gV tw_8_22 tw_8_24 tw_p_38 tw_1_14 tw_8_25) rfl rfl rfl (by decide +kernel) ⟨Nat.le_of_ble_eq_true rfl, Nat.le_of_ble_eq_true rfl⟩) (rc_preV hT hW hK hE hS h0 (by decide) rfl (q := (RX9, TX9, 22)) rfl [.int u1]) rfl rfl hl.1 rfl (lv_room (Nat.le_of_ble_eq_true rfl)) dX9_leaves_2 ⟨Nat.le_of_ble_eq_true rfl, Nat.le_of_ble_eq_true rfl⟩) (fun H locs hW hS => ?_)
  have hm := hm0
  clear hm0 hc_1
  refine lv_if_ne (tgt := 20) hx hb dX9_leaves_5 (by decide) (fun c_18 => ?_) (fun c_18 => ?_)
  · replace hm := rc_f hm c_18
    refine lv_aload_n hx hb dX9_leaves_20 rfl (lv_at hl 0 rfl) ?_
    refine rg_10_1 hx hb hts hown hK hW h0 tw_7_70 dX9_leaves_21 ?_
    refine lv_iconst (v := 1) hx hb dX9_leaves_24 (by decide) ?_
    refine rc_ialdj (j := 1) hx hb hK hW (rc_t_10_1 hT h0) (by decide) rfl (rc_inD (by decide)) (by decide) dX9_leaves_25 ?_
    refine lv_iconst (v := 1) hx hb dX9_leaves_26 (by decide) ?_
    refine lv_isub hx hb dX9_leaves_27 ?_
    refine lv_topi (fun v2_2 ev => ?_)
    replace hm := rc_lt_at hm ev
    clear ev
    refine lv_istore_n (lv' := [(2, .int v2_2), (0, .ref a0), (1, .int u1)]) hx hb dX9_leaves_28 rfl hl (by decide) rfl (fun ls hl => ?_)
    refine lv_iconst (v := 2) hx hb dX9_leaves_29 (by decide) ?_
    refine lv_iload_n hx hb dX9_leaves_30 rfl (lv_at hl 2 rfl) ?_
    refine lv_imul hx hb dX9_leaves_31 ?_
    refine lv_topi (fun v3_3 ev => ?_)
    replace hm := rc_lt_at hm ev
    clear ev
    refine lv_istore_n (lv' := [(3, .int v3_3), (2, .int v2_2), (0, .ref a0), (1, .int u1)]) hx hb dX9_leaves_32 rfl hl (by decide) rfl (fun ls hl => ?_)
    refine lp_33 v2_2 _ (fun v3_9 σ_10 H locs ls hm hW hS hl => ?_) rc_fu v3_3 σ_1 _ _ _ hm hW hS (lv_sub hl [2, 1, 0] rfl)
    refine lv_aload_n hx hb dX9_leaves_66 rfl (lv_at hl 0 rfl) ?_
    refine rg_10_1 hx hb hts hown hK hW h0 tw_7_70 dX9_leaves_67 ?_
    refine lv_bipush (v := 63) hx hb dX9_leaves_70 (by decide) ?_
    refine lv_iconst (v := 2) hx hb dX9_leaves_72 (by decide) ?_
    refine lv_iload_n hx hb dX9_leaves_73 rfl (lv_at hl 1 rfl) ?_
    refine lv_imul hx hb dX9_leaves_74 ?_
    refine lv_iadd hx hb dX9_leaves_75 ?_
    refine lv_iconst (v := 0) hx hb dX9_leaves_76 (by decide) ?_
    have hi_11 := (rc_ix hm).1
    replace hm := (rc_ix hm).2
    refine rc_iastj (j := ((63 : Int32) + ((2 : Int32) * v2_2)).toNatClampNeg) hx hb hK hW hS (rc_t_10_1 hT h0) (by decide) (fun _ => rfl) hi_11 rfl dX9_leaves_77 (fun σ_12 H locs eσ hW hS => ?_)
    replace hm := rc_lt_at hm eσ
    clear eσ
    refine lv_aload_n hx hb dX9_leaves_78 rfl (lv_at hl 0 rfl) ?_
    refine rg_10_1 hx hb hts hown hK hW h0 tw_7_70 dX9_leaves_79 ?_
    refine lv_bipush (v := 63) hx hb dX9_leaves_82 (by decide) ?_
    refine lv_iconst (v := 2) hx hb dX9_leaves_84 (by decide) ?_
    refine lv_iload_n hx hb dX9_leaves_85 rfl (lv_at hl 1 rfl) ?_
    refine lv_imul hx hb dX9_leaves_86 ?_
    refine lv_iadd hx hb dX9_leaves_87 ?_
    refine lv_iconst (v := 1) hx hb dX9_leaves_88 (by decide) ?_
    refine lv_iadd hx hb dX9_leaves_89 ?_
    refine lv_iconst (v := 0) hx hb dX9_leaves_90 (by decide) ?_
    have hi_13 := (rc_ix hm).1
    replace hm := (rc_ix hm).2
    refine rc_iastj (j := (((63 : Int32) + ((2 : Int32) * v2_2)) + (1 : Int32)).toNatClampNeg) hx hb hK hW hS (rc_t_10_1 hT h0) (by decide) (fun _ => rfl) hi_13 rfl dX9_leaves_91 (fun σ_14 H locs eσ hW hS => ?_)
    replace hm := rc_lt_at hm eσ
    clear eσ
    refine lv_aload_n hx hb dX9_leaves_92 rfl (lv_at hl 0 rfl) ?_
    refine rg_10_1 hx hb hts hown hK hW h0 tw_7_70 dX9_leaves_93 ?_
    refine lv_iconst (v := 1) hx hb dX9_leaves_96 (by decide) ?_
    refine lv_iload_n hx hb dX9_leaves_97 rfl (lv_at hl 1 rfl) ?_
    refine rc_iastj (j := 1) hx hb hK hW hS (rc_t_10_1 hT h0) (by decide) (fun _ => rfl) (rc_inD (by decide)) (by decide) dX9_leaves_98 (fun σ_15 H locs eσ hW hS => ?_)
    replace hm := rc_lt_at hm eσ
    clear eσ
    refine lv_aload_n hx hb dX9_leaves_99 rfl (lv_at hl 0 rfl) ?_
    refine lv_iload_n hx hb dX9_leaves_100 rfl (lv_at hl 1 rfl) ?_
    obtain ⟨w_16, σ_16, hc_16, hm0⟩ := rc_bd_inv hm
    clear hm
    refine rc_ci hS (va_runV (As := [.int v2_2]) (rest := []) ⟨hx, hb, hml, hown, hts⟩ (k_X9_done l hT a0 v2_2 h0 H.size _ _ _ hc_16) (cwV 1 hts (rc_gV tw_7_175 tw_7_177 tw_p_23 tw_1_14 tw_7_178) rfl rfl rfl (by decide +kernel) ⟨Nat.le_of_ble_eq_true rfl, Nat.le_of_ble_eq_true rfl⟩) (rc_preV hT hW hK hE hS h0 (by decide) rfl (q := (RX9, TX9, 22)) rfl [.int v2_2]) rfl rfl hl.1 rfl (lv_room (Nat.le_of_ble_eq_true rfl)) dX9_leaves_101 ⟨Nat.le_of_ble_eq_true rfl, Nat.le_of_ble_eq_true rfl⟩) (fun H locs hW hS => ?_)
    have hm := hm0
    clear hm0 hc_16
    exact rc_eiret hx hb hr hlocks hW hS (Nat.le_of_ble_eq_true rfl) (Nat.le_of_ble_eq_true rfl) hm dX9_leaves_104
  · replace hm := rc_t hm c_18
    refine lv_aload_n hx hb dX9_leaves_8 rfl (lv_at hl 0 rfl) ?_
    refine lv_iconst (v := 4) hx hb dX9_leaves_9 (by decide) ?_
    refine lv_aload_n hx hb dX9_leaves_10 rfl (lv_at hl 0 rfl) ?_
    refine rg_10_1 hx hb hts hown hK hW h0 tw_7_70 dX9_leaves_11 ?_
    refine lv_iconst (v := 1) hx hb dX9_leaves_14 (by decide) ?_
    refine rc_ialdj (j := 1) hx hb hK hW (rc_t_10_1 hT h0) (by decide) rfl (rc_inD (by decide)) (by decide) dX9_leaves_15 ?_
    obtain ⟨w_17, σ_17, hc_17, hm0⟩ := rc_bd_inv hm
    clear hm
    refine rc_ci hS (va_runV (As := [.int (4 : Int32), .int (σ_1 (rf a0 1) 1)]) (rest := []) ⟨hx, hb, hml, hown, hts⟩ (k_X9_refused l hT a0 (4 : Int32) (σ_1 (rf a0 1) 1) h0 H.size _ _ _ hc_17) (cwV 2 hts (rc_gV tw_7_155 tw_7_157 tw_p_18 tw_1_14 tw_7_158) rfl rfl rfl (by decide +kernel) ⟨Nat.le_of_ble_eq_true rfl, Nat.le_of_ble_eq_true rfl⟩) (rc_preV hT hW hK hE hS h0 (by decide) rfl (q := (RX9, TX9, 22)) rfl [.int (4 : Int32), .int (σ_1 (rf a0 1) 1)]) rfl rfl hl.1 rfl (lv_room (Nat.le_of_ble_eq_true rfl)) dX9_leaves_16 ⟨Nat.le_of_ble_eq_true rfl, Nat.le_of_ble_eq_true rfl⟩) (fun H locs hW hS => ?_)
    have hm := hm0
    clear hm0 hc_17
    exact rc_eiret hx hb hr hlocks hW hS (Nat.le_of_ble_eq_true rfl) (Nat.le_of_ble_eq_true rfl) hm dX9_leaves_19
set_option maxHeartbeats 4000000 in
set_option maxRecDepth 100000 in
theorem k_X9_drinks (l : Launch) {Y : rc_Y} {sh : Nat → Nat} {rf : rc_F} (hT : rc_T Y sh rf) (a0 : Nat) (u1 : Int32) (h0 : sh a0 = 10) (sz : Nat) (σ σ' : rc_S) (r : Int32) (hm : f_X9_drinks rf a0 u1 σ = some (r, σ')) : Met l yX9_drinks (Cond.code yX9_drinks cX9_drinks 5 (some .int) :: rc_big) ({ frames := 3, cells := 0, slots := 0, locals := 67 } : Room) (rc_P Y sh rf σ sz [.ref a0, .int u1]) (va_Qi (fun (r' : Int32) (_ : Unit) => r' = r) (fun _ t => rc_W Y sh rf σ' t.heap) (rc_A sh sz)) 0 0 (rc_A sh sz) := by
  refine Met.ofW (cc := cX9_drinks) (maxL := 5) (ret := (some .int)) (by decide +kernel) rfl ?_
  intro p e s m args below meth c s₁ B hml hv
  obtain ⟨rfl, hsz, hW, hK, hE⟩ := hv
  have hx := B.exec
  have hb := B.bytes
  have hr := B.returns
  have hts : ∀ w ∈ rc_big, w.before _ s = true := fun w h => atoms_spec (ws := Cond.code yX9_drinks cX9_drinks 5 (some .int) :: rc_big) B.pre w (List.mem_cons_of_mem _ h)
  have hown : s.vm.findClass RX9 = some m.cls := findClass_of_methodNamed B.named
  have hlocks := B.notSynchronized
  clear B
  subst hsz
  have hS : va_S (rc_A sh s.heap.size) s.heap s.heap [] := va_S.rf
  have hl := lv_entry ([.ref a0, .int u1]) (n := 5) (Nat.le_of_ble_eq_true rfl)
  rw [lg_entry_eq]
  generalize (lg_sl ([.ref a0, .int u1]) ++ List.replicate (5 - (lg_sl ([.ref a0, .int u1])).length) Slot.unset).toArray = ls at hl ⊢
  have hl : lv_has ls 5 [(0, .ref a0), (1, .int u1)] := hl
  unfold f_X9_drinks at hm
  refine lv_aload_n hx hb dX9_drinks_0 rfl (lv_at hl 0 rfl) ?_
  refine lv_iload_n hx hb dX9_drinks_1 rfl (lv_at hl 1 rfl) ?_
  obtain ⟨w_1, σ_1, hc_1, hm0⟩ := rc_bd_inv hm
  clear hm
  refine rc_ci hS (va_runV (As := [.int u1]) (rest := []) ⟨hx, hb, hml, hown, hts⟩ (k_X9_isBarrel l hT a0 u1 h0 s.heap.size _ _ _ hc_1) (cwV 1 hts (rc_gV tw_7_211 tw_7_213 tw_p_30 tw_1_14 tw_7_214) rfl rfl rfl (by decide +kernel) ⟨Nat.le_of_ble_eq_true rfl, Nat.le_of_ble_eq_true rfl⟩) (rc_preV hT hW hK hE hS h0 (by decide) rfl (q := (RX9, TX9, 22)) rfl [.int u1]) rfl rfl hl.1 rfl (lv_room (Nat.le_of_ble_eq_true rfl)) dX9_drinks_2 ⟨Nat.le_of_ble_eq_true rfl, Nat.le_of_ble_eq_true rfl⟩) (fun H locs hW hS => ?_)
  have hm := hm0
  clear hm0 hc_1
  refine lv_if_ne (tgt := 20) hx hb dX9_drinks_5 (by decide) (fun c_25 => ?_) (fun c_25 => ?_)
  · replace hm := rc_f hm c_25
    refine lv_aload_n hx hb dX9_drinks_20 rfl (lv_at hl 0 rfl) ?_
    refine rg_10_1 hx hb hts hown hK hW h0 tw_7_70 dX9_drinks_21 ?_
    refine lv_iconst (v := 1) hx hb dX9_drinks_24 (by decide) ?_
    refine rc_ialdj (j := 1) hx hb hK hW (rc_t_10_1 hT h0) (by decide) rfl (rc_inD (by decide)) (by decide) dX9_drinks_25 ?_
    refine lv_topi (fun v2_2 ev => ?_)
    replace hm := rc_lt_at hm ev
    clear ev
    refine lv_istore_n (lv' := [(2, .int v2_2), (0, .ref a0), (1, .int u1)]) hx hb dX9_drinks_26 rfl hl (by decide) rfl (fun ls hl => ?_)
    refine lv_iload_n hx hb dX9_drinks_27 rfl (lv_at hl 0 rfl) ?_
    refine lv_if_ne (tgt := 39) hx hb dX9_drinks_28 (by decide) (fun c_23 => ?_) (fun c_23 => ?_)
    · replace hm := rc_f hm c_23
      refine lv_aload_n hx hb dX9_drinks_39 rfl (lv_at hl 1 rfl) ?_
      refine lv_iload_n hx hb dX9_drinks_40 rfl (lv_at hl 2 rfl) ?_
      refine lv_iconst (v := 1) hx hb dX9_drinks_41 (by decide) ?_
      obtain ⟨w_3, σ_3, hc_3, hm0⟩ := rc_bd_inv hm
      clear hm
      refine rc_ci hS (va_runV (As := [.int u1, .int (1 : Int32)]) (rest := []) ⟨hx, hb, hml, hown, hts⟩ (k_X9_of l hT a0 u1 (1 : Int32) h0 H.size _ _ _ hc_3) (cwV 2 hts (rc_gV tw_7_163 tw_7_165 tw_p_20 tw_1_14 tw_7_166) rfl rfl rfl (by decide +kernel) ⟨Nat.le_of_ble_eq_true rfl, Nat.le_of_ble_eq_true rfl⟩) (rc_preV hT hW hK hE hS h0 (by decide) rfl (q := (RX9, TX9, 22)) rfl [.int u1, .int (1 : Int32)]) rfl rfl hl.1 rfl (lv_room (Nat.le_of_ble_eq_true rfl)) dX9_drinks_42 ⟨Nat.le_of_ble_eq_true rfl, Nat.le_of_ble_eq_true rfl⟩) (fun H locs hW hS => ?_)
      have hm := hm0
      clear hm0 hc_3
      refine lv_iload_n hx hb dX9_drinks_45 rfl (lv_at hl 0 rfl) ?_
      refine lv_icmp_ge (tgt := 62) hx hb dX9_drinks_46 (by decide) (fun c_21 => ?_) (fun c_21 => ?_)
      · replace hm := rc_t hm c_21
        refine lv_aload_n hx hb dX9_drinks_62 rfl (lv_at hl 1 rfl) ?_
        refine lv_aload_n hx hb dX9_drinks_63 rfl (lv_at hl 1 rfl) ?_
        refine lv_iload_n hx hb dX9_drinks_64 rfl (lv_at hl 2 rfl) ?_
        obtain ⟨w_4, σ_4, hc_4, hm0⟩ := rc_bd_inv hm
        clear hm
        refine rc_ci hS (va_runV (As := [.int u1]) (rest := [.ref a0]) ⟨hx, hb, hml, hown, hts⟩ (k_X9_part l hT a0 u1 h0 H.size _ _ _ hc_4) (cwV 1 hts (rc_gV tw_7_227 tw_7_229 tw_p_33 tw_1_14 tw_7_230) rfl rfl rfl (by decide +kernel) ⟨Nat.le_of_ble_eq_true rfl, Nat.le_of_ble_eq_true rfl⟩) (rc_preV hT hW hK hE hS h0 (by decide) rfl (q := (RX9, TX9, 22)) rfl [.int u1]) rfl rfl hl.1 rfl (lv_room (Nat.le_of_ble_eq_true rfl)) dX9_drinks_65 ⟨Nat.le_of_ble_eq_true rfl, Nat.le_of_ble_eq_true rfl⟩) (fun H locs hW hS => ?_)
        have hm := hm0
        clear hm0 hc_4
        obtain ⟨w_5, σ_5, hc_5, hm0⟩ := rc_bd_inv hm
        clear hm
        refine rc_ci hS (va_runV (As := [.int w_4]) (rest := []) ⟨hx, hb, hml, hown, hts⟩ (k_X9_noses l hT a0 w_4 h0 H.size _ _ _ hc_5) (cwV 1 hts (rc_gV tw_8_34 tw_8_36 tw_p_40 tw_1_14 tw_8_37) rfl rfl rfl (by decide +kernel) ⟨Nat.le_of_ble_eq_true rfl, Nat.le_of_ble_eq_true rfl⟩) (rc_preV hT hW hK hE hS h0 (by decide) rfl (q := (RX9, TX9, 22)) rfl [.int w_4]) rfl rfl hl.1 rfl (lv_room (Nat.le_of_ble_eq_true rfl)) dX9_drinks_68 ⟨Nat.le_of_ble_eq_true rfl, Nat.le_of_ble_eq_true rfl⟩) (fun H locs hW hS => ?_)
        have hm := hm0
        clear hm0 hc_5
        refine lv_if_eq (tgt := 78) hx hb dX9_drinks_71 (by decide) (fun c_18 => ?_) (fun c_18 => ?_)
        · replace hm := rc_t hm c_18
          refine lv_iconst (v := 0) hx hb dX9_drinks_78 (by decide) ?_
          refine lv_istore_n (lv' := [(3, .int (0 : Int32)), (2, .int v2_2), (0, .ref a0), (1, .int u1)]) hx hb dX9_drinks_79 rfl hl (by decide) rfl (fun ls hl => ?_)
          refine lv_aload_n hx hb dX9_drinks_80 rfl (lv_at hl 2 rfl) ?_
          refine lv_iload_n hx hb dX9_drinks_81 rfl (lv_at hl 3 rfl) ?_
          refine lv_iconst (v := 0) hx hb dX9_drinks_82 (by decide) ?_
          obtain ⟨w_6, σ_6, hc_6, hm0⟩ := rc_bd_inv hm
          clear hm
          refine rc_ci hS (va_runV (As := [.int u1, .int (0 : Int32)]) (rest := []) ⟨hx, hb, hml, hown, hts⟩ (k_X9_noteOf l hT a0 u1 (0 : Int32) h0 H.size _ _ _ hc_6) (cwV 2 hts (rc_gV tw_8_42 tw_8_44 tw_p_42 tw_1_14 tw_8_45) rfl rfl rfl (by decide +kernel) ⟨Nat.le_of_ble_eq_true rfl, Nat.le_of_ble_eq_true rfl⟩) (rc_preV hT hW hK hE hS h0 (by decide) rfl (q := (RX9, TX9, 22)) rfl [.int u1, .int (0 : Int32)]) rfl rfl hl.1 rfl (lv_room (Nat.le_of_ble_eq_true rfl)) dX9_drinks_83 ⟨Nat.le_of_ble_eq_true rfl, Nat.le_of_ble_eq_true rfl⟩) (fun H locs hW hS => ?_)
          have hm := hm0
          clear hm0 hc_6
          refine lv_istore (lv' := [(4, .int w_6), (3, .int (0 : Int32)), (2, .int v2_2), (0, .ref a0), (1, .int u1)]) hx hb dX9_drinks_86 hl (by decide) rfl (fun ls hl => ?_)
          refine lv_aload_n hx hb dX9_drinks_88 rfl (lv_at hl 3 rfl) ?_
          refine rg_10_1 hx hb hts hown hK hW h0 tw_7_70 dX9_drinks_89 ?_
          refine lv_bipush (v := 8) hx hb dX9_drinks_92 (by decide) ?_
          refine lv_dup2_11 hx hb dX9_drinks_94 rfl rfl ?_
          refine rc_ialdj (j := 8) hx hb hK hW (rc_t_10_1 hT h0) (by decide) rfl (rc_inD (by decide)) (by decide) dX9_drinks_95 ?_
          refine lv_iload_n hx hb dX9_drinks_96 rfl (lv_at hl 2 rfl) ?_
          refine lv_iadd hx hb dX9_drinks_97 ?_
          refine rc_iastj (j := 8) hx hb hK hW hS (rc_t_10_1 hT h0) (by decide) (fun _ => rfl) (rc_inD (by decide)) (by decide) dX9_drinks_98 (fun σ_7 H locs eσ hW hS => ?_)
          replace hm := rc_lt_at hm eσ
          clear eσ
          refine lv_iload_n hx hb dX9_drinks_99 rfl (lv_at hl 1 rfl) ?_
          refine lv_if_eq (tgt := 143) hx hb dX9_drinks_100 (by decide) (fun _ => ?_) (fun c9 => absurd c9 (by decide))
          refine lv_aload_n hx hb dX9_drinks_143 rfl (lv_at hl 3 rfl) ?_
          refine lv_iload_n hx hb dX9_drinks_144 rfl (lv_at hl 4 rfl) ?_
          refine lv_iload_n hx hb dX9_drinks_145 rfl (lv_at hl 2 rfl) ?_
          refine lv_aload_n hx hb dX9_drinks_146 rfl (lv_at hl 3 rfl) ?_
          refine lv_iload_n hx hb dX9_drinks_147 rfl (lv_at hl 4 rfl) ?_
          refine lv_iload_n hx hb dX9_drinks_148 rfl (lv_at hl 2 rfl) ?_
          obtain ⟨w_8, σ_8, hc_8, hm0⟩ := rc_bd_inv hm
          clear hm
          refine rc_ci hS (va_runV (As := [.int u1, .int v2_2]) (rest := [.int v2_2, .int u1, .ref a0]) ⟨hx, hb, hml, hown, hts⟩ (k_X9_hailIn l hT a0 u1 v2_2 h0 H.size _ _ _ hc_8) (cwV 2 hts (rc_gV tw_7_223 tw_7_225 tw_p_32 tw_1_14 tw_7_226) rfl rfl rfl (by decide +kernel) ⟨Nat.le_of_ble_eq_true rfl, Nat.le_of_ble_eq_true rfl⟩) (rc_preV hT hW hK hE hS h0 (by decide) rfl (q := (RX9, TX9, 22)) rfl [.int u1, .int v2_2]) rfl rfl hl.1 rfl (lv_room (Nat.le_of_ble_eq_true rfl)) dX9_drinks_149 ⟨Nat.le_of_ble_eq_true rfl, Nat.le_of_ble_eq_true rfl⟩) (fun H locs hW hS => ?_)
          have hm := hm0
          clear hm0 hc_8
          obtain ⟨w_9, σ_9, hc_9, hm0⟩ := rc_bd_inv hm
          clear hm
          refine rc_cv hS (va_runV (As := [.int u1, .int v2_2, .int w_8]) (rest := []) ⟨hx, hb, hml, hown, hts⟩ (k_X9_goes l hT a0 u1 v2_2 w_8 h0 H.size _ _ _ hc_9) (cwV 3 hts (rc_gV tw_7_234 tw_7_236 tw_p_34 tw_1_14 tw_7_237) rfl rfl rfl (by decide +kernel) ⟨Nat.le_of_ble_eq_true rfl, Nat.le_of_ble_eq_true rfl⟩) (rc_preV hT hW hK hE hS h0 (by decide) rfl (q := (RX9, TX9, 22)) rfl [.int u1, .int v2_2, .int w_8]) rfl rfl hl.1 rfl (lv_room (Nat.le_of_ble_eq_true rfl)) dX9_drinks_152 ⟨Nat.le_of_ble_eq_true rfl, Nat.le_of_ble_eq_true rfl⟩) (fun H locs hW hS => ?_)
          have hm := hm0
          clear hm0 hc_9
          refine lv_aload_n hx hb dX9_drinks_155 rfl (lv_at hl 3 rfl) ?_
          refine lv_iload hx hb dX9_drinks_156 (lv_at hl 0 rfl) ?_
          refine lv_iload_n hx hb dX9_drinks_158 rfl (lv_at hl 2 rfl) ?_
          refine lv_imul hx hb dX9_drinks_159 ?_
          obtain ⟨w_10, σ_10, hc_10, hm0⟩ := rc_bd_inv hm
          clear hm
          refine rc_ci hS (va_runV (As := [.int (w_6 * v2_2)]) (rest := []) ⟨hx, hb, hml, hown, hts⟩ (k_X9_done l hT a0 (w_6 * v2_2) h0 H.size _ _ _ hc_10) (cwV 1 hts (rc_gV tw_7_175 tw_7_177 tw_p_23 tw_1_14 tw_7_178) rfl rfl rfl (by decide +kernel) ⟨Nat.le_of_ble_eq_true rfl, Nat.le_of_ble_eq_true rfl⟩) (rc_preV hT hW hK hE hS h0 (by decide) rfl (q := (RX9, TX9, 22)) rfl [.int (w_6 * v2_2)]) rfl rfl hl.1 rfl (lv_room (Nat.le_of_ble_eq_true rfl)) dX9_drinks_160 ⟨Nat.le_of_ble_eq_true rfl, Nat.le_of_ble_eq_true rfl⟩) (fun H locs hW hS => ?_)
          have hm := hm0
          clear hm0 hc_10
          exact rc_eiret hx hb hr hlocks hW hS (Nat.le_of_ble_eq_true rfl) (Nat.le_of_ble_eq_true rfl) hm dX9_drinks_163
        · replace hm := rc_f hm c_18
          refine lv_iconst (v := 1) hx hb dX9_drinks_74 (by decide) ?_
          refine lv_goto (tgt := 79) hx hb dX9_drinks_75 (by decide) ?_
          refine lv_istore_n (lv' := [(3, .int (1 : Int32)), (2, .int v2_2), (0, .ref a0), (1, .int u1)]) hx hb dX9_drinks_79 rfl hl (by decide) rfl (fun ls hl => ?_)
          refine lv_aload_n hx hb dX9_drinks_80 rfl (lv_at hl 2 rfl) ?_
          refine lv_iload_n hx hb dX9_drinks_81 rfl (lv_at hl 3 rfl) ?_
          refine lv_iconst (v := 0) hx hb dX9_drinks_82 (by decide) ?_
          obtain ⟨w_11, σ_11, hc_11, hm0⟩ := rc_bd_inv hm
          clear hm
          refine rc_ci hS (va_runV (As := [.int u1, .int (0 : Int32)]) (rest := []) ⟨hx, hb, hml, hown, hts⟩ (k_X9_noteOf l hT a0 u1 (0 : Int32) h0 H.size _ _ _ hc_11) (cwV 2 hts (rc_gV tw_8_42 tw_8_44 tw_p_42 tw_1_14 tw_8_45) rfl rfl rfl (by decide +kernel) ⟨Nat.le_of_ble_eq_true rfl, Nat.le_of_ble_eq_true rfl⟩) (rc_preV hT hW hK hE hS h0 (by decide) rfl (q := (RX9, TX9, 22)) rfl [.int u1, .int (0 : Int32)]) rfl rfl hl.1 rfl (lv_room (Nat.le_of_ble_eq_true rfl)) dX9_drinks_83 ⟨Nat.le_of_ble_eq_true rfl, Nat.le_of_ble_eq_true rfl⟩) (fun H locs hW hS => ?_)
          have hm := hm0
          clear hm0 hc_11
          refine lv_istore (lv' := [(4, .int w_11), (3, .int (1 : Int32)), (2, .int v2_2), (0, .ref a0), (1, .int u1)]) hx hb dX9_drinks_86 hl (by decide) rfl (fun ls hl => ?_)
          refine lv_aload_n hx hb dX9_drinks_88 rfl (lv_at hl 3 rfl) ?_
          refine rg_10_1 hx hb hts hown hK hW h0 tw_7_70 dX9_drinks_89 ?_
          refine lv_bipush (v := 8) hx hb dX9_drinks_92 (by decide) ?_
          refine lv_dup2_11 hx hb dX9_drinks_94 rfl rfl ?_
          refine rc_ialdj (j := 8) hx hb hK hW (rc_t_10_1 hT h0) (by decide) rfl (rc_inD (by decide)) (by decide) dX9_drinks_95 ?_
          refine lv_iload_n hx hb dX9_drinks_96 rfl (lv_at hl 2 rfl) ?_
          refine lv_iadd hx hb dX9_drinks_97 ?_
          refine rc_iastj (j := 8) hx hb hK hW hS (rc_t_10_1 hT h0) (by decide) (fun _ => rfl) (rc_inD (by decide)) (by decide) dX9_drinks_98 (fun σ_12 H locs eσ hW hS => ?_)
          replace hm := rc_lt_at hm eσ
          clear eσ
          refine lv_iload_n hx hb dX9_drinks_99 rfl (lv_at hl 1 rfl) ?_
          refine lv_if_eq (tgt := 143) hx hb dX9_drinks_100 (by decide) (fun c9 => absurd c9 (by decide)) (fun _ => ?_)
          refine lv_aload_n hx hb dX9_drinks_103 rfl (lv_at hl 3 rfl) ?_
          refine rg_10_1 hx hb hts hown hK hW h0 tw_7_70 dX9_drinks_104 ?_
          refine lv_bipush (v := 9) hx hb dX9_drinks_107 (by decide) ?_
          refine lv_dup2_11 hx hb dX9_drinks_109 rfl rfl ?_
          refine rc_ialdj (j := 9) hx hb hK hW (rc_t_10_1 hT h0) (by decide) rfl (rc_inD (by decide)) (by decide) dX9_drinks_110 ?_
          refine lv_aload_n hx hb dX9_drinks_111 rfl (lv_at hl 3 rfl) ?_
          refine lv_iload_n hx hb dX9_drinks_112 rfl (lv_at hl 4 rfl) ?_
          refine lv_iconst (v := 1) hx hb dX9_drinks_113 (by decide) ?_
          obtain ⟨w_13, σ_13, hc_13, hm0⟩ := rc_bd_inv hm
          clear hm
          refine rc_ci hS (va_runV (As := [.int u1, .int (1 : Int32)]) (rest := [.int (σ_12 (rf a0 1) 9), .int (9 : Int32), .ref (rf a0 1)]) ⟨hx, hb, hml, hown, hts⟩ (k_X9_of l hT a0 u1 (1 : Int32) h0 H.size _ _ _ hc_13) (cwV 2 hts (rc_gV tw_7_163 tw_7_165 tw_p_20 tw_1_14 tw_7_166) rfl rfl rfl (by decide +kernel) ⟨Nat.le_of_ble_eq_true rfl, Nat.le_of_ble_eq_true rfl⟩) (rc_preV hT hW hK hE hS h0 (by decide) rfl (q := (RX9, TX9, 22)) rfl [.int u1, .int (1 : Int32)]) rfl rfl hl.1 rfl (lv_room (Nat.le_of_ble_eq_true rfl)) dX9_drinks_114 ⟨Nat.le_of_ble_eq_true rfl, Nat.le_of_ble_eq_true rfl⟩) (fun H locs hW hS => ?_)
          have hm := hm0
          clear hm0 hc_13
          refine lv_iload_n hx hb dX9_drinks_117 rfl (lv_at hl 2 rfl) ?_
          refine lv_isub hx hb dX9_drinks_118 ?_
          refine lv_iadd hx hb dX9_drinks_119 ?_
          refine rc_iastj (j := 9) hx hb hK hW hS (rc_t_10_1 hT h0) (by decide) (fun _ => rfl) (rc_inD (by decide)) (by decide) dX9_drinks_120 (fun σ_14 H locs eσ hW hS => ?_)
          replace hm := rc_lt_at hm eσ
          clear eσ
          refine lv_aload_n hx hb dX9_drinks_121 rfl (lv_at hl 3 rfl) ?_
          refine rg_10_1 hx hb hts hown hK hW h0 tw_7_70 dX9_drinks_122 ?_
          refine lv_bipush (v := 10) hx hb dX9_drinks_125 (by decide) ?_
          refine lv_dup2_11 hx hb dX9_drinks_127 rfl rfl ?_
          refine rc_ialdj (j := 10) hx hb hK hW (rc_t_10_1 hT h0) (by decide) rfl (rc_inD (by decide)) (by decide) dX9_drinks_128 ?_
          refine lv_iconst (v := 1) hx hb dX9_drinks_129 (by decide) ?_
          refine lv_iadd hx hb dX9_drinks_130 ?_
          refine rc_iastj (j := 10) hx hb hK hW hS (rc_t_10_1 hT h0) (by decide) (fun _ => rfl) (rc_inD (by decide)) (by decide) dX9_drinks_131 (fun σ_15 H locs eσ hW hS => ?_)
          replace hm := rc_lt_at hm eσ
          clear eσ
          refine lv_aload_n hx hb dX9_drinks_132 rfl (lv_at hl 3 rfl) ?_
          refine lv_iload_n hx hb dX9_drinks_133 rfl (lv_at hl 4 rfl) ?_
          obtain ⟨w_16, σ_16, hc_16, hm0⟩ := rc_bd_inv hm
          clear hm
          refine rc_cv hS (va_runV (As := [.int u1]) (rest := []) ⟨hx, hb, hml, hown, hts⟩ (k_X9_empties l hT a0 u1 h0 H.size _ _ _ hc_16) (cwV 1 hts (rc_gV tw_7_199 tw_7_201 tw_p_28 tw_1_14 tw_7_202) rfl rfl rfl (by decide +kernel) ⟨Nat.le_of_ble_eq_true rfl, Nat.le_of_ble_eq_true rfl⟩) (rc_preV hT hW hK hE hS h0 (by decide) rfl (q := (RX9, TX9, 22)) rfl [.int u1]) rfl rfl hl.1 rfl (lv_room (Nat.le_of_ble_eq_true rfl)) dX9_drinks_134 ⟨Nat.le_of_ble_eq_true rfl, Nat.le_of_ble_eq_true rfl⟩) (fun H locs hW hS => ?_)
          have hm := hm0
          clear hm0 hc_16
          refine lv_aload_n hx hb dX9_drinks_137 rfl (lv_at hl 3 rfl) ?_
          refine lv_iconst (v := 0) hx hb dX9_drinks_138 (by decide) ?_
          obtain ⟨w_17, σ_17, hc_17, hm0⟩ := rc_bd_inv hm
          clear hm
          refine rc_ci hS (va_runV (As := [.int (0 : Int32)]) (rest := []) ⟨hx, hb, hml, hown, hts⟩ (k_X9_done l hT a0 (0 : Int32) h0 H.size _ _ _ hc_17) (cwV 1 hts (rc_gV tw_7_175 tw_7_177 tw_p_23 tw_1_14 tw_7_178) rfl rfl rfl (by decide +kernel) ⟨Nat.le_of_ble_eq_true rfl, Nat.le_of_ble_eq_true rfl⟩) (rc_preV hT hW hK hE hS h0 (by decide) rfl (q := (RX9, TX9, 22)) rfl [.int (0 : Int32)]) rfl rfl hl.1 rfl (lv_room (Nat.le_of_ble_eq_true rfl)) dX9_drinks_139 ⟨Nat.le_of_ble_eq_true rfl, Nat.le_of_ble_eq_true rfl⟩) (fun H locs hW hS => ?_)
          have hm := hm0
          clear hm0 hc_17
          exact rc_eiret hx hb hr hlocks hW hS (Nat.le_of_ble_eq_true rfl) (Nat.le_of_ble_eq_true rfl) hm dX9_drinks_142
      · replace hm := rc_f hm c_21
        refine lv_aload_n hx hb dX9_drinks_49 rfl (lv_at hl 1 rfl) ?_
        refine lv_bipush (v := 6) hx hb dX9_drinks_50 (by decide) ?_
        refine lv_aload_n hx hb dX9_drinks_52 rfl (lv_at hl 1 rfl) ?_
        refine lv_iload_n hx hb dX9_drinks_53 rfl (lv_at hl 2 rfl) ?_
        refine lv_iconst (v := 1) hx hb dX9_drinks_54 (by decide) ?_
        obtain ⟨w_19, σ_19, hc_19, hm0⟩ := rc_bd_inv hm
        clear hm
        refine rc_ci hS (va_runV (As := [.int u1, .int (1 : Int32)]) (rest := [.int (6 : Int32), .ref a0]) ⟨hx, hb, hml, hown, hts⟩ (k_X9_of l hT a0 u1 (1 : Int32) h0 H.size _ _ _ hc_19) (cwV 2 hts (rc_gV tw_7_163 tw_7_165 tw_p_20 tw_1_14 tw_7_166) rfl rfl rfl (by decide +kernel) ⟨Nat.le_of_ble_eq_true rfl, Nat.le_of_ble_eq_true rfl⟩) (rc_preV hT hW hK hE hS h0 (by decide) rfl (q := (RX9, TX9, 22)) rfl [.int u1, .int (1 : Int32)]) rfl rfl hl.1 rfl (lv_room (Nat.le_of_ble_eq_true rfl)) dX9_drinks_55 ⟨Nat.le_of_ble_eq_true rfl, Nat.le_of_ble_eq_true rfl⟩) (fun H locs hW hS => ?_)
        have hm := hm0
        clear hm0 hc_19
        obtain ⟨w_20, σ_20, hc_20, hm0⟩ := rc_bd_inv hm
        clear hm
        refine rc_ci hS (va_runV (As := [.int (6 : Int32), .int w_19]) (rest := []) ⟨hx, hb, hml, hown, hts⟩ (k_X9_refused l hT a0 (6 : Int32) w_19 h0 H.size _ _ _ hc_20) (cwV 2 hts (rc_gV tw_7_155 tw_7_157 tw_p_18 tw_1_14 tw_7_158) rfl rfl rfl (by decide +kernel) ⟨Nat.le_of_ble_eq_true rfl, Nat.le_of_ble_eq_true rfl⟩) (rc_preV hT hW hK hE hS h0 (by decide) rfl (q := (RX9, TX9, 22)) rfl [.int (6 : Int32), .int w_19]) rfl rfl hl.1 rfl (lv_room (Nat.le_of_ble_eq_true rfl)) dX9_drinks_58 ⟨Nat.le_of_ble_eq_true rfl, Nat.le_of_ble_eq_true rfl⟩) (fun H locs hW hS => ?_)
        have hm := hm0
        clear hm0 hc_20
        exact rc_eiret hx hb hr hlocks hW hS (Nat.le_of_ble_eq_true rfl) (Nat.le_of_ble_eq_true rfl) hm dX9_drinks_61
    · replace hm := rc_t hm c_23
      refine lv_aload_n hx hb dX9_drinks_31 rfl (lv_at hl 1 rfl) ?_
      refine lv_bipush (v := 11) hx hb dX9_drinks_32 (by decide) ?_
      refine lv_iconst (v := 0) hx hb dX9_drinks_34 (by decide) ?_
      obtain ⟨w_22, σ_22, hc_22, hm0⟩ := rc_bd_inv hm
      clear hm
      refine rc_ci hS (va_runV (As := [.int (11 : Int32), .int (0 : Int32)]) (rest := []) ⟨hx, hb, hml, hown, hts⟩ (k_X9_refused l hT a0 (11 : Int32) (0 : Int32) h0 H.size _ _ _ hc_22) (cwV 2 hts (rc_gV tw_7_155 tw_7_157 tw_p_18 tw_1_14 tw_7_158) rfl rfl rfl (by decide +kernel) ⟨Nat.le_of_ble_eq_true rfl, Nat.le_of_ble_eq_true rfl⟩) (rc_preV hT hW hK hE hS h0 (by decide) rfl (q := (RX9, TX9, 22)) rfl [.int (11 : Int32), .int (0 : Int32)]) rfl rfl hl.1 rfl (lv_room (Nat.le_of_ble_eq_true rfl)) dX9_drinks_35 ⟨Nat.le_of_ble_eq_true rfl, Nat.le_of_ble_eq_true rfl⟩) (fun H locs hW hS => ?_)
      have hm := hm0
      clear hm0 hc_22
      exact rc_eiret hx hb hr hlocks hW hS (Nat.le_of_ble_eq_true rfl) (Nat.le_of_ble_eq_true rfl) hm dX9_drinks_38
  · replace hm := rc_t hm c_25
    refine lv_aload_n hx hb dX9_drinks_8 rfl (lv_at hl 0 rfl) ?_
    refine lv_iconst (v := 3) hx hb dX9_drinks_9 (by decide) ?_
    refine lv_aload_n hx hb dX9_drinks_10 rfl (lv_at hl 0 rfl) ?_
    refine rg_10_1 hx hb hts hown hK hW h0 tw_7_70 dX9_drinks_11 ?_
    refine lv_iconst (v := 0) hx hb dX9_drinks_14 (by decide) ?_
    refine rc_ialdj (j := 0) hx hb hK hW (rc_t_10_1 hT h0) (by decide) rfl (rc_inD (by decide)) (by decide) dX9_drinks_15 ?_
    obtain ⟨w_24, σ_24, hc_24, hm0⟩ := rc_bd_inv hm
    clear hm
    refine rc_ci hS (va_runV (As := [.int (3 : Int32), .int (σ_1 (rf a0 1) 0)]) (rest := []) ⟨hx, hb, hml, hown, hts⟩ (k_X9_refused l hT a0 (3 : Int32) (σ_1 (rf a0 1) 0) h0 H.size _ _ _ hc_24) (cwV 2 hts (rc_gV tw_7_155 tw_7_157 tw_p_18 tw_1_14 tw_7_158) rfl rfl rfl (by decide +kernel) ⟨Nat.le_of_ble_eq_true rfl, Nat.le_of_ble_eq_true rfl⟩) (rc_preV hT hW hK hE hS h0 (by decide) rfl (q := (RX9, TX9, 22)) rfl [.int (3 : Int32), .int (σ_1 (rf a0 1) 0)]) rfl rfl hl.1 rfl (lv_room (Nat.le_of_ble_eq_true rfl)) dX9_drinks_16 ⟨Nat.le_of_ble_eq_true rfl, Nat.le_of_ble_eq_true rfl⟩) (fun H locs hW hS => ?_)
    have hm := hm0
    clear hm0 hc_24
    exact rc_eiret hx hb hr hlocks hW hS (Nat.le_of_ble_eq_true rfl) (Nat.le_of_ble_eq_true rfl) hm dX9_drinks_19
set_option maxHeartbeats 4000000 in
set_option maxRecDepth 100000 in
theorem k_X9_clears (l : Launch) {Y : rc_Y} {sh : Nat → Nat} {rf : rc_F} (hT : rc_T Y sh rf) (a0 : Nat) (u1 : Int32) (h0 : sh a0 = 10) (sz : Nat) (σ σ' : rc_S) (r : Int32) (hm : f_X9_clears rf a0 u1 σ = some (r, σ')) : Met l yX9_clears (Cond.code yX9_clears cX9_clears 3 (some .int) :: rc_big) ({ frames := 1, cells := 0, slots := 0, locals := 22 } : Room) (rc_P Y sh rf σ sz [.ref a0, .int u1]) (va_Qi (fun (r' : Int32) (_ : Unit) => r' = r) (fun _ t => rc_W Y sh rf σ' t.heap) (rc_A sh sz)) 0 0 (rc_A sh sz) := by
  refine Met.ofW (cc := cX9_clears) (maxL := 3) (ret := (some .int)) (by decide +kernel) rfl ?_
  intro p e s m args below meth c s₁ B hml hv
  obtain ⟨rfl, hsz, hW, hK, hE⟩ := hv
  have hx := B.exec
  have hb := B.bytes
  have hr := B.returns
  have hts : ∀ w ∈ rc_big, w.before _ s = true := fun w h => atoms_spec (ws := Cond.code yX9_clears cX9_clears 3 (some .int) :: rc_big) B.pre w (List.mem_cons_of_mem _ h)
  have hown : s.vm.findClass RX9 = some m.cls := findClass_of_methodNamed B.named
  have hlocks := B.notSynchronized
  clear B
  subst hsz
  have hS : va_S (rc_A sh s.heap.size) s.heap s.heap [] := va_S.rf
  have hl := lv_entry ([.ref a0, .int u1]) (n := 3) (Nat.le_of_ble_eq_true rfl)
  rw [lg_entry_eq]
  generalize (lg_sl ([.ref a0, .int u1]) ++ List.replicate (3 - (lg_sl ([.ref a0, .int u1])).length) Slot.unset).toArray = ls at hl ⊢
  have hl : lv_has ls 3 [(0, .ref a0), (1, .int u1)] := hl
  unfold f_X9_clears at hm
  refine lv_iload_n hx hb dX9_clears_0 rfl (lv_at hl 1 rfl) ?_
  refine lv_iconst (v := 0) hx hb dX9_clears_1 (by decide) ?_
  refine lv_iconst (v := 3) hx hb dX9_clears_2 (by decide) ?_
  obtain ⟨w_1, σ_1, hc_1, hm0⟩ := rc_bd_inv hm
  clear hm
  refine rc_ci hS (va_runS (As := [.int u1, .int (0 : Int32), .int (3 : Int32)]) (rest := []) ⟨hx, hb, hml, hown, hts⟩ (k_X9_in l hT u1 (0 : Int32) (3 : Int32)  s.heap.size _ _ _ hc_1) (va_cwS 3 hts (rc_gS tw_7_152 tw_7_153 tw_1_14 tw_7_154) rfl rfl rfl (by decide +kernel) ⟨Nat.le_of_ble_eq_true rfl, Nat.le_of_ble_eq_true rfl⟩) (rc_preS hT hW hK hE hS [.int u1, .int (0 : Int32), .int (3 : Int32)]) rfl rfl hl.1 rfl (lv_room (Nat.le_of_ble_eq_true rfl)) dX9_clears_3 ⟨Nat.le_of_ble_eq_true rfl, Nat.le_of_ble_eq_true rfl⟩) (fun H locs hW hS => ?_)
  have hm := hm0
  clear hm0 hc_1
  refine lv_if_ne (tgt := 16) hx hb dX9_clears_6 (by decide) (fun c_10 => ?_) (fun c_10 => ?_)
  · replace hm := rc_f hm c_10
    refine lv_aload_n hx hb dX9_clears_16 rfl (lv_at hl 0 rfl) ?_
    refine rg_10_1 hx hb hts hown hK hW h0 tw_7_70 dX9_clears_17 ?_
    refine lv_bipush (v := 11) hx hb dX9_clears_20 (by decide) ?_
    refine lv_iload_n hx hb dX9_clears_22 rfl (lv_at hl 1 rfl) ?_
    refine lv_iadd hx hb dX9_clears_23 ?_
    have hi_2 := (rc_ix hm).1
    replace hm := (rc_ix hm).2
    refine rc_ialdj (j := ((11 : Int32) + u1).toNatClampNeg) hx hb hK hW (rc_t_10_1 hT h0) (by decide) rfl hi_2 rfl dX9_clears_24 ?_
    refine lv_topi (fun v2_3 ev => ?_)
    replace hm := rc_lt_at hm ev
    clear ev
    refine lv_istore_n (lv' := [(2, .int v2_3), (0, .ref a0), (1, .int u1)]) hx hb dX9_clears_25 rfl hl (by decide) rfl (fun ls hl => ?_)
    refine lv_iload_n hx hb dX9_clears_26 rfl (lv_at hl 0 rfl) ?_
    refine lv_if_ne (tgt := 38) hx hb dX9_clears_27 (by decide) (fun c_8 => ?_) (fun c_8 => ?_)
    · replace hm := rc_f hm c_8
      refine lv_aload_n hx hb dX9_clears_38 rfl (lv_at hl 1 rfl) ?_
      refine rg_10_1 hx hb hts hown hK hW h0 tw_7_70 dX9_clears_39 ?_
      refine lv_bipush (v := 11) hx hb dX9_clears_42 (by decide) ?_
      refine lv_iload_n hx hb dX9_clears_44 rfl (lv_at hl 2 rfl) ?_
      refine lv_iadd hx hb dX9_clears_45 ?_
      refine lv_iconst (v := 0) hx hb dX9_clears_46 (by decide) ?_
      have hi_4 := (rc_ix hm).1
      replace hm := (rc_ix hm).2
      refine rc_iastj (j := ((11 : Int32) + u1).toNatClampNeg) hx hb hK hW hS (rc_t_10_1 hT h0) (by decide) (fun _ => rfl) hi_4 rfl dX9_clears_47 (fun σ_5 H locs eσ hW hS => ?_)
      replace hm := rc_lt_at hm eσ
      clear eσ
      refine lv_aload_n hx hb dX9_clears_48 rfl (lv_at hl 1 rfl) ?_
      refine lv_iload_n hx hb dX9_clears_49 rfl (lv_at hl 0 rfl) ?_
      obtain ⟨w_6, σ_6, hc_6, hm0⟩ := rc_bd_inv hm
      clear hm
      refine rc_ci hS (va_runV (As := [.int v2_3]) (rest := []) ⟨hx, hb, hml, hown, hts⟩ (k_X9_done l hT a0 v2_3 h0 H.size _ _ _ hc_6) (cwV 1 hts (rc_gV tw_7_175 tw_7_177 tw_p_23 tw_1_14 tw_7_178) rfl rfl rfl (by decide +kernel) ⟨Nat.le_of_ble_eq_true rfl, Nat.le_of_ble_eq_true rfl⟩) (rc_preV hT hW hK hE hS h0 (by decide) rfl (q := (RX9, TX9, 22)) rfl [.int v2_3]) rfl rfl hl.1 rfl (lv_room (Nat.le_of_ble_eq_true rfl)) dX9_clears_50 ⟨Nat.le_of_ble_eq_true rfl, Nat.le_of_ble_eq_true rfl⟩) (fun H locs hW hS => ?_)
      have hm := hm0
      clear hm0 hc_6
      exact rc_eiret hx hb hr hlocks hW hS (Nat.le_of_ble_eq_true rfl) (Nat.le_of_ble_eq_true rfl) hm dX9_clears_53
    · replace hm := rc_t hm c_8
      refine lv_aload_n hx hb dX9_clears_30 rfl (lv_at hl 1 rfl) ?_
      refine lv_bipush (v := 12) hx hb dX9_clears_31 (by decide) ?_
      refine lv_iload_n hx hb dX9_clears_33 rfl (lv_at hl 2 rfl) ?_
      obtain ⟨w_7, σ_7, hc_7, hm0⟩ := rc_bd_inv hm
      clear hm
      refine rc_ci hS (va_runV (As := [.int (12 : Int32), .int u1]) (rest := []) ⟨hx, hb, hml, hown, hts⟩ (k_X9_refused l hT a0 (12 : Int32) u1 h0 H.size _ _ _ hc_7) (cwV 2 hts (rc_gV tw_7_155 tw_7_157 tw_p_18 tw_1_14 tw_7_158) rfl rfl rfl (by decide +kernel) ⟨Nat.le_of_ble_eq_true rfl, Nat.le_of_ble_eq_true rfl⟩) (rc_preV hT hW hK hE hS h0 (by decide) rfl (q := (RX9, TX9, 22)) rfl [.int (12 : Int32), .int u1]) rfl rfl hl.1 rfl (lv_room (Nat.le_of_ble_eq_true rfl)) dX9_clears_34 ⟨Nat.le_of_ble_eq_true rfl, Nat.le_of_ble_eq_true rfl⟩) (fun H locs hW hS => ?_)
      have hm := hm0
      clear hm0 hc_7
      exact rc_eiret hx hb hr hlocks hW hS (Nat.le_of_ble_eq_true rfl) (Nat.le_of_ble_eq_true rfl) hm dX9_clears_37
  · replace hm := rc_t hm c_10
    refine lv_aload_n hx hb dX9_clears_9 rfl (lv_at hl 0 rfl) ?_
    refine lv_iconst (v := 1) hx hb dX9_clears_10 (by decide) ?_
    refine lv_iconst (v := 0) hx hb dX9_clears_11 (by decide) ?_
    obtain ⟨w_9, σ_9, hc_9, hm0⟩ := rc_bd_inv hm
    clear hm
    refine rc_ci hS (va_runV (As := [.int (1 : Int32), .int (0 : Int32)]) (rest := []) ⟨hx, hb, hml, hown, hts⟩ (k_X9_refused l hT a0 (1 : Int32) (0 : Int32) h0 H.size _ _ _ hc_9) (cwV 2 hts (rc_gV tw_7_155 tw_7_157 tw_p_18 tw_1_14 tw_7_158) rfl rfl rfl (by decide +kernel) ⟨Nat.le_of_ble_eq_true rfl, Nat.le_of_ble_eq_true rfl⟩) (rc_preV hT hW hK hE hS h0 (by decide) rfl (q := (RX9, TX9, 22)) rfl [.int (1 : Int32), .int (0 : Int32)]) rfl rfl hl.1 rfl (lv_room (Nat.le_of_ble_eq_true rfl)) dX9_clears_12 ⟨Nat.le_of_ble_eq_true rfl, Nat.le_of_ble_eq_true rfl⟩) (fun H locs hW hS => ?_)
    have hm := hm0
    clear hm0 hc_9
    exact rc_eiret hx hb hr hlocks hW hS (Nat.le_of_ble_eq_true rfl) (Nat.le_of_ble_eq_true rfl) hm dX9_clears_15
set_option maxHeartbeats 4000000 in
set_option maxRecDepth 100000 in
theorem k_X9_passes (l : Launch) {Y : rc_Y} {sh : Nat → Nat} {rf : rc_F} (hT : rc_T Y sh rf) (a0 : Nat) (h0 : sh a0 = 10) (sz : Nat) (σ σ' : rc_S) (r : Int32) (hm : f_X9_passes rf a0 σ = some (r, σ')) : Met l yX9_passes (Cond.code yX9_passes cX9_passes 3 (some .int) :: rc_big) ({ frames := 1, cells := 0, slots := 0, locals := 21 } : Room) (rc_P Y sh rf σ sz [.ref a0]) (va_Qi (fun (r' : Int32) (_ : Unit) => r' = r) (fun _ t => rc_W Y sh rf σ' t.heap) (rc_A sh sz)) 0 0 (rc_A sh sz) := by
  refine Met.ofW (cc := cX9_passes) (maxL := 3) (ret := (some .int)) (by decide +kernel) rfl ?_
  intro p e s m args below meth c s₁ B hml hv
  obtain ⟨rfl, hsz, hW, hK, hE⟩ := hv
  have hx := B.exec
  have hb := B.bytes
  have hr := B.returns
  have hts : ∀ w ∈ rc_big, w.before _ s = true := fun w h => atoms_spec (ws := Cond.code yX9_passes cX9_passes 3 (some .int) :: rc_big) B.pre w (List.mem_cons_of_mem _ h)
  have hown : s.vm.findClass RX9 = some m.cls := findClass_of_methodNamed B.named
  have hlocks := B.notSynchronized
  clear B
  subst hsz
  have hS : va_S (rc_A sh s.heap.size) s.heap s.heap [] := va_S.rf
  have hl := lv_entry ([.ref a0]) (n := 3) (Nat.le_of_ble_eq_true rfl)
  rw [lg_entry_eq]
  generalize (lg_sl ([.ref a0]) ++ List.replicate (3 - (lg_sl ([.ref a0])).length) Slot.unset).toArray = ls at hl ⊢
  have hl : lv_has ls 3 [(0, .ref a0)] := hl
  have lp_26 : ∀ (v1 : Int32) (K : Int32 → rc_S → Option (Int32 × rc_S)) (hKK : ∀ (v2 : Int32) (σ : rc_S) (H : Heap) (locs : List Loc) (ls : Array Slot), K v2 σ = some (r, σ') → rc_W Y sh rf σ H → va_S (rc_A sh s.heap.size) s.heap H locs → lv_has ls 3 [(0, .ref a0), (1, .int v1)] → W p l e (headSpec (Cond.code yX9_passes cX9_passes 3 (some .int) :: rc_big) ({ frames := 1, cells := 0, slots := 0, locals := 21 } : Room)).room s m (([.ref a0] : List Value).toArray) below meth c H locs 0 0 (MQ below (va_Qi (fun (r' : Int32) (_ : Unit) => r' = r) (fun _ t => rc_W Y sh rf σ' t.heap) (rc_A sh s.heap.size)) ([.ref a0] : List Value).toArray s 0 0 (rc_A sh s.heap.size)) (F0 m 76 ls [])) (n : Nat) (v2 : Int32) (σ : rc_S) (H : Heap) (locs : List Loc) (ls : Array Slot), f_X9_passes_26 rf a0 v1 K n v2 σ = some (r, σ') → rc_W Y sh rf σ H → va_S (rc_A sh s.heap.size) s.heap H locs → lv_has ls 3 [(0, .ref a0), (1, .int v1), (2, .int v2)] → W p l e (headSpec (Cond.code yX9_passes cX9_passes 3 (some .int) :: rc_big) ({ frames := 1, cells := 0, slots := 0, locals := 21 } : Room)).room s m (([.ref a0] : List Value).toArray) below meth c H locs 0 0 (MQ below (va_Qi (fun (r' : Int32) (_ : Unit) => r' = r) (fun _ t => rc_W Y sh rf σ' t.heap) (rc_A sh s.heap.size)) ([.ref a0] : List Value).toArray s 0 0 (rc_A sh s.heap.size)) (F0 m 26 ls []) := by
    intro v1 K hKK n
    induction n with
    | zero =>
      intro v2 σ H locs ls hm
      rw [f_X9_passes_26] at hm
      cases hm
    | succ n ih =>
      intro v2 σ H locs ls hm hW hS hl
      rw [f_X9_passes_26] at hm
      refine lv_iload_n hx hb dX9_passes_26 rfl (lv_at hl 2 rfl) ?_
      refine lv_iconst (v := 4) hx hb dX9_passes_27 (by decide) ?_
      refine lv_icmp_ge (tgt := 76) hx hb dX9_passes_28 (by decide) (fun c_13 => ?_) (fun c_13 => ?_)
      · replace hm := rc_t hm c_13
        exact hKK v2 σ _ _ _ hm hW hS (lv_sub hl [0, 1] rfl)
      · replace hm := rc_f hm c_13
        refine lv_aload_n hx hb dX9_passes_31 rfl (lv_at hl 0 rfl) ?_
        refine rg_10_1 hx hb hts hown hK hW h0 tw_7_70 dX9_passes_32 ?_
        refine lv_bipush (v := 11) hx hb dX9_passes_35 (by decide) ?_
        refine lv_iload_n hx hb dX9_passes_37 rfl (lv_at hl 2 rfl) ?_
        refine lv_iadd hx hb dX9_passes_38 ?_
        refine lv_aload_n hx hb dX9_passes_39 rfl (lv_at hl 0 rfl) ?_
        refine rg_10_1 hx hb hts hown hK hW h0 tw_7_70 dX9_passes_40 ?_
        refine lv_bipush (v := 11) hx hb dX9_passes_43 (by decide) ?_
        refine lv_iload_n hx hb dX9_passes_45 rfl (lv_at hl 2 rfl) ?_
        refine lv_iadd hx hb dX9_passes_46 ?_
        have hi_4 := (rc_ix hm).1
        replace hm := (rc_ix hm).2
        refine rc_ialdj (j := ((11 : Int32) + v2).toNatClampNeg) hx hb hK hW (rc_t_10_1 hT h0) (by decide) rfl hi_4 rfl dX9_passes_47 ?_
        refine lv_bipush (v := 9) hx hb dX9_passes_48 (by decide) ?_
        refine lv_icmp_ne (tgt := 58) hx hb dX9_passes_50 (by decide) (fun c_12 => ?_) (fun c_12 => ?_)
        · replace hm := rc_f hm c_12
          refine lv_aload_n hx hb dX9_passes_58 rfl (lv_at hl 0 rfl) ?_
          refine rg_10_1 hx hb hts hown hK hW h0 tw_7_70 dX9_passes_59 ?_
          refine lv_bipush (v := 11) hx hb dX9_passes_62 (by decide) ?_
          refine lv_iload_n hx hb dX9_passes_64 rfl (lv_at hl 2 rfl) ?_
          refine lv_iadd hx hb dX9_passes_65 ?_
          have hi_5 := (rc_ix hm).1
          replace hm := (rc_ix hm).2
          refine rc_ialdj (j := ((11 : Int32) + v2).toNatClampNeg) hx hb hK hW (rc_t_10_1 hT h0) (by decide) rfl hi_5 rfl dX9_passes_66 ?_
          refine lv_iconst (v := 1) hx hb dX9_passes_67 (by decide) ?_
          refine lv_iadd hx hb dX9_passes_68 ?_
          have hi_6 := (rc_ix hm).1
          replace hm := (rc_ix hm).2
          refine rc_iastj (j := ((11 : Int32) + v2).toNatClampNeg) hx hb hK hW hS (rc_t_10_1 hT h0) (by decide) (fun _ => rfl) hi_6 rfl dX9_passes_69 (fun σ_7 H locs eσ hW hS => ?_)
          replace hm := rc_lt_at hm eσ
          clear eσ
          obtain ⟨v2_8, ev⟩ : ∃ y : Int32, y = (v2 + 1) := ⟨_, rfl⟩
          replace hm := rc_lt_at hm ev
          refine lv_iinc (v := v2_8) (lv' := [(2, .int v2_8), (0, .ref a0), (1, .int v1)]) hx hb dX9_passes_70 hl (k := 2) rfl (by rw [ev]; rfl) (by decide) rfl (fun ls hl => ?_)
          clear ev
          refine lv_goto (tgt := 26) hx hb dX9_passes_73 (by decide) ?_
          exact ih v2_8 σ_7 _ _ _ hm hW hS (lv_sub hl [1, 2, 0] rfl)
        · replace hm := rc_t hm c_12
          refine lv_bipush (v := 9) hx hb dX9_passes_53 (by decide) ?_
          refine lv_goto (tgt := 69) hx hb dX9_passes_55 (by decide) ?_
          have hi_9 := (rc_ix hm).1
          replace hm := (rc_ix hm).2
          refine rc_iastj (j := ((11 : Int32) + v2).toNatClampNeg) hx hb hK hW hS (rc_t_10_1 hT h0) (by decide) (fun _ => rfl) hi_9 rfl dX9_passes_69 (fun σ_10 H locs eσ hW hS => ?_)
          replace hm := rc_lt_at hm eσ
          clear eσ
          obtain ⟨v2_11, ev⟩ : ∃ y : Int32, y = (v2 + 1) := ⟨_, rfl⟩
          replace hm := rc_lt_at hm ev
          refine lv_iinc (v := v2_11) (lv' := [(2, .int v2_11), (0, .ref a0), (1, .int v1)]) hx hb dX9_passes_70 hl (k := 2) rfl (by rw [ev]; rfl) (by decide) rfl (fun ls hl => ?_)
          clear ev
          refine lv_goto (tgt := 26) hx hb dX9_passes_73 (by decide) ?_
          exact ih v2_11 σ_10 _ _ _ hm hW hS (lv_sub hl [1, 2, 0] rfl)
  unfold f_X9_passes at hm
  refine lv_aload_n hx hb dX9_passes_0 rfl (lv_at hl 0 rfl) ?_
  refine rg_10_1 hx hb hts hown hK hW h0 tw_7_70 dX9_passes_1 ?_
  refine lv_iconst (v := 2) hx hb dX9_passes_4 (by decide) ?_
  refine rc_ialdj (j := 2) hx hb hK hW (rc_t_10_1 hT h0) (by decide) rfl (rc_inD (by decide)) (by decide) dX9_passes_5 ?_
  refine lv_topi (fun v1_1 ev => ?_)
  replace hm := rc_lt_at hm ev
  clear ev
  refine lv_istore_n (lv' := [(1, .int v1_1), (0, .ref a0)]) hx hb dX9_passes_6 rfl hl (by decide) rfl (fun ls hl => ?_)
  refine lv_aload_n hx hb dX9_passes_7 rfl (lv_at hl 1 rfl) ?_
  refine rg_10_1 hx hb hts hown hK hW h0 tw_7_70 dX9_passes_8 ?_
  refine lv_iconst (v := 3) hx hb dX9_passes_11 (by decide) ?_
  refine lv_dup2_11 hx hb dX9_passes_12 rfl rfl ?_
  refine rc_ialdj (j := 3) hx hb hK hW (rc_t_10_1 hT h0) (by decide) rfl (rc_inD (by decide)) (by decide) dX9_passes_13 ?_
  refine lv_iconst (v := 1) hx hb dX9_passes_14 (by decide) ?_
  refine lv_iadd hx hb dX9_passes_15 ?_
  refine rc_iastj (j := 3) hx hb hK hW hS (rc_t_10_1 hT h0) (by decide) (fun _ => rfl) (rc_inD (by decide)) (by decide) dX9_passes_16 (fun σ_2 H locs eσ hW hS => ?_)
  replace hm := rc_lt_at hm eσ
  clear eσ
  refine lv_aload_n hx hb dX9_passes_17 rfl (lv_at hl 1 rfl) ?_
  refine rg_10_1 hx hb hts hown hK hW h0 tw_7_70 dX9_passes_18 ?_
  refine lv_iconst (v := 2) hx hb dX9_passes_21 (by decide) ?_
  refine lv_iconst (v := 0) hx hb dX9_passes_22 (by decide) ?_
  refine rc_iastj (j := 2) hx hb hK hW hS (rc_t_10_1 hT h0) (by decide) (fun _ => rfl) (rc_inD (by decide)) (by decide) dX9_passes_23 (fun σ_3 H locs eσ hW hS => ?_)
  replace hm := rc_lt_at hm eσ
  clear eσ
  refine lv_iconst (v := 0) hx hb dX9_passes_24 (by decide) ?_
  refine lv_istore_n (lv' := [(2, .int (0 : Int32)), (1, .int v1_1), (0, .ref a0)]) hx hb dX9_passes_25 rfl hl (by decide) rfl (fun ls hl => ?_)
  refine lp_26 v1_1 _ (fun v2_14 σ_15 H locs ls hm hW hS hl => ?_) rc_fu (0 : Int32) σ_3 _ _ _ hm hW hS (lv_sub hl [2, 1, 0] rfl)
  refine lv_aload_n hx hb dX9_passes_76 rfl (lv_at hl 0 rfl) ?_
  refine lv_iload_n hx hb dX9_passes_77 rfl (lv_at hl 1 rfl) ?_
  obtain ⟨w_16, σ_16, hc_16, hm0⟩ := rc_bd_inv hm
  clear hm
  refine rc_ci hS (va_runV (As := [.int v1_1]) (rest := []) ⟨hx, hb, hml, hown, hts⟩ (k_X9_done l hT a0 v1_1 h0 H.size _ _ _ hc_16) (cwV 1 hts (rc_gV tw_7_175 tw_7_177 tw_p_23 tw_1_14 tw_7_178) rfl rfl rfl (by decide +kernel) ⟨Nat.le_of_ble_eq_true rfl, Nat.le_of_ble_eq_true rfl⟩) (rc_preV hT hW hK hE hS h0 (by decide) rfl (q := (RX9, TX9, 22)) rfl [.int v1_1]) rfl rfl hl.1 rfl (lv_room (Nat.le_of_ble_eq_true rfl)) dX9_passes_78 ⟨Nat.le_of_ble_eq_true rfl, Nat.le_of_ble_eq_true rfl⟩) (fun H locs hW hS => ?_)
  have hm := hm0
  clear hm0 hc_16
  exact rc_eiret hx hb hr hlocks hW hS (Nat.le_of_ble_eq_true rfl) (Nat.le_of_ble_eq_true rfl) hm dX9_passes_81
set_option maxHeartbeats 4000000 in
set_option maxRecDepth 100000 in
theorem k_X9_storm (l : Launch) {Y : rc_Y} {sh : Nat → Nat} {rf : rc_F} (hT : rc_T Y sh rf) (a0 : Nat) (u1 : Int32) (u2 : Int32) (h0 : sh a0 = 10) (sz : Nat) (σ σ' : rc_S) (r : Int32) (hm : f_X9_storm rf a0 u1 u2 σ = some (r, σ')) : Met l yX9_storm (Cond.code yX9_storm cX9_storm 3 (some .int) :: rc_big) ({ frames := 3, cells := 0, slots := 0, locals := 72 } : Room) (rc_P Y sh rf σ sz [.ref a0, .int u1, .int u2]) (va_Qi (fun (r' : Int32) (_ : Unit) => r' = r) (fun _ t => rc_W Y sh rf σ' t.heap) (rc_A sh sz)) 0 0 (rc_A sh sz) := by
  refine Met.ofW (cc := cX9_storm) (maxL := 3) (ret := (some .int)) (by decide +kernel) rfl ?_
  intro p e s m args below meth c s₁ B hml hv
  obtain ⟨rfl, hsz, hW, hK, hE⟩ := hv
  have hx := B.exec
  have hb := B.bytes
  have hr := B.returns
  have hts : ∀ w ∈ rc_big, w.before _ s = true := fun w h => atoms_spec (ws := Cond.code yX9_storm cX9_storm 3 (some .int) :: rc_big) B.pre w (List.mem_cons_of_mem _ h)
  have hown : s.vm.findClass RX9 = some m.cls := findClass_of_methodNamed B.named
  have hlocks := B.notSynchronized
  clear B
  subst hsz
  have hS : va_S (rc_A sh s.heap.size) s.heap s.heap [] := va_S.rf
  have hl := lv_entry ([.ref a0, .int u1, .int u2]) (n := 3) (Nat.le_of_ble_eq_true rfl)
  rw [lg_entry_eq]
  generalize (lg_sl ([.ref a0, .int u1, .int u2]) ++ List.replicate (3 - (lg_sl ([.ref a0, .int u1, .int u2])).length) Slot.unset).toArray = ls at hl ⊢
  have hl : lv_has ls 3 [(0, .ref a0), (1, .int u1), (2, .int u2)] := hl
  unfold f_X9_storm at hm
  refine lv_aload_n hx hb dX9_storm_0 rfl (lv_at hl 0 rfl) ?_
  obtain ⟨w_1, σ_1, hc_1, hm0⟩ := rc_bd_inv hm
  clear hm
  refine rc_cv hS (va_runV (As := []) (rest := []) ⟨hx, hb, hml, hown, hts⟩ (k_X9_remembers l hT a0 h0 s.heap.size _ _ _ hc_1) (cwV 0 hts (rc_gV tw_7_144 tw_7_146 tw_p_16 tw_1_14 tw_7_147) rfl rfl rfl (by decide +kernel) ⟨Nat.le_of_ble_eq_true rfl, Nat.le_of_ble_eq_true rfl⟩) (rc_preV hT hW hK hE hS h0 (by decide) rfl (q := (RX9, TX9, 22)) rfl []) rfl rfl hl.1 rfl (lv_room (Nat.le_of_ble_eq_true rfl)) dX9_storm_1 ⟨Nat.le_of_ble_eq_true rfl, Nat.le_of_ble_eq_true rfl⟩) (fun H locs hW hS => ?_)
  have hm := hm0
  clear hm0 hc_1
  refine lv_aload_n hx hb dX9_storm_4 rfl (lv_at hl 0 rfl) ?_
  refine lv_aload_n hx hb dX9_storm_5 rfl (lv_at hl 0 rfl) ?_
  refine lv_iload_n hx hb dX9_storm_6 rfl (lv_at hl 1 rfl) ?_
  refine lv_iload_n hx hb dX9_storm_7 rfl (lv_at hl 2 rfl) ?_
  obtain ⟨w_2, σ_2, hc_2, hm0⟩ := rc_bd_inv hm
  clear hm
  refine rc_ci hS (va_runV (As := [.int u1, .int u2]) (rest := [.ref a0]) ⟨hx, hb, hml, hown, hts⟩ (k_X9_storms l hT a0 u1 u2 h0 H.size _ _ _ hc_2) (cwV 2 hts (rc_gV tw_7_148 tw_7_150 tw_p_17 tw_1_14 tw_7_151) rfl rfl rfl (by decide +kernel) ⟨Nat.le_of_ble_eq_true rfl, Nat.le_of_ble_eq_true rfl⟩) (rc_preV hT hW hK hE hS h0 (by decide) rfl (q := (RX9, TX9, 22)) rfl [.int u1, .int u2]) rfl rfl hl.1 rfl (lv_room (Nat.le_of_ble_eq_true rfl)) dX9_storm_8 ⟨Nat.le_of_ble_eq_true rfl, Nat.le_of_ble_eq_true rfl⟩) (fun H locs hW hS => ?_)
  have hm := hm0
  clear hm0 hc_2
  obtain ⟨w_3, σ_3, hc_3, hm0⟩ := rc_bd_inv hm
  clear hm
  refine rc_ci hS (va_runV (As := [.int w_2]) (rest := []) ⟨hx, hb, hml, hown, hts⟩ (k_X9_ends l hT a0 w_2 h0 H.size _ _ _ hc_3) (cwV 1 hts (rc_gV tw_7_179 tw_7_181 tw_p_24 tw_1_14 tw_7_182) rfl rfl rfl (by decide +kernel) ⟨Nat.le_of_ble_eq_true rfl, Nat.le_of_ble_eq_true rfl⟩) (rc_preV hT hW hK hE hS h0 (by decide) rfl (q := (RX9, TX9, 22)) rfl [.int w_2]) rfl rfl hl.1 rfl (lv_room (Nat.le_of_ble_eq_true rfl)) dX9_storm_11 ⟨Nat.le_of_ble_eq_true rfl, Nat.le_of_ble_eq_true rfl⟩) (fun H locs hW hS => ?_)
  have hm := hm0
  clear hm0 hc_3
  exact rc_eiret hx hb hr hlocks hW hS (Nat.le_of_ble_eq_true rfl) (Nat.le_of_ble_eq_true rfl) hm dX9_storm_14
set_option maxHeartbeats 4000000 in
set_option maxRecDepth 100000 in
theorem k_X9_barrel (l : Launch) {Y : rc_Y} {sh : Nat → Nat} {rf : rc_F} (hT : rc_T Y sh rf) (a0 : Nat) (u1 : Int32) (h0 : sh a0 = 10) (sz : Nat) (σ σ' : rc_S) (r : Int32) (hm : f_X9_barrel rf a0 u1 σ = some (r, σ')) : Met l yX9_barrel (Cond.code yX9_barrel cX9_barrel 2 (some .int) :: rc_big) ({ frames := 3, cells := 0, slots := 0, locals := 66 } : Room) (rc_P Y sh rf σ sz [.ref a0, .int u1]) (va_Qi (fun (r' : Int32) (_ : Unit) => r' = r) (fun _ t => rc_W Y sh rf σ' t.heap) (rc_A sh sz)) 0 0 (rc_A sh sz) := by
  refine Met.ofW (cc := cX9_barrel) (maxL := 2) (ret := (some .int)) (by decide +kernel) rfl ?_
  intro p e s m args below meth c s₁ B hml hv
  obtain ⟨rfl, hsz, hW, hK, hE⟩ := hv
  have hx := B.exec
  have hb := B.bytes
  have hr := B.returns
  have hts : ∀ w ∈ rc_big, w.before _ s = true := fun w h => atoms_spec (ws := Cond.code yX9_barrel cX9_barrel 2 (some .int) :: rc_big) B.pre w (List.mem_cons_of_mem _ h)
  have hown : s.vm.findClass RX9 = some m.cls := findClass_of_methodNamed B.named
  have hlocks := B.notSynchronized
  clear B
  subst hsz
  have hS : va_S (rc_A sh s.heap.size) s.heap s.heap [] := va_S.rf
  have hl := lv_entry ([.ref a0, .int u1]) (n := 2) (Nat.le_of_ble_eq_true rfl)
  rw [lg_entry_eq]
  generalize (lg_sl ([.ref a0, .int u1]) ++ List.replicate (2 - (lg_sl ([.ref a0, .int u1])).length) Slot.unset).toArray = ls at hl ⊢
  have hl : lv_has ls 2 [(0, .ref a0), (1, .int u1)] := hl
  unfold f_X9_barrel at hm
  refine lv_aload_n hx hb dX9_barrel_0 rfl (lv_at hl 0 rfl) ?_
  obtain ⟨w_1, σ_1, hc_1, hm0⟩ := rc_bd_inv hm
  clear hm
  refine rc_cv hS (va_runV (As := []) (rest := []) ⟨hx, hb, hml, hown, hts⟩ (k_X9_remembers l hT a0 h0 s.heap.size _ _ _ hc_1) (cwV 0 hts (rc_gV tw_7_144 tw_7_146 tw_p_16 tw_1_14 tw_7_147) rfl rfl rfl (by decide +kernel) ⟨Nat.le_of_ble_eq_true rfl, Nat.le_of_ble_eq_true rfl⟩) (rc_preV hT hW hK hE hS h0 (by decide) rfl (q := (RX9, TX9, 22)) rfl []) rfl rfl hl.1 rfl (lv_room (Nat.le_of_ble_eq_true rfl)) dX9_barrel_1 ⟨Nat.le_of_ble_eq_true rfl, Nat.le_of_ble_eq_true rfl⟩) (fun H locs hW hS => ?_)
  have hm := hm0
  clear hm0 hc_1
  refine lv_aload_n hx hb dX9_barrel_4 rfl (lv_at hl 0 rfl) ?_
  refine lv_aload_n hx hb dX9_barrel_5 rfl (lv_at hl 0 rfl) ?_
  refine lv_iload_n hx hb dX9_barrel_6 rfl (lv_at hl 1 rfl) ?_
  obtain ⟨w_2, σ_2, hc_2, hm0⟩ := rc_bd_inv hm
  clear hm
  refine rc_ci hS (va_runV (As := [.int u1]) (rest := [.ref a0]) ⟨hx, hb, hml, hown, hts⟩ (k_X9_places l hT a0 u1 h0 H.size _ _ _ hc_2) (cwV 1 hts (rc_gV tw_7_195 tw_7_197 tw_p_27 tw_1_14 tw_7_198) rfl rfl rfl (by decide +kernel) ⟨Nat.le_of_ble_eq_true rfl, Nat.le_of_ble_eq_true rfl⟩) (rc_preV hT hW hK hE hS h0 (by decide) rfl (q := (RX9, TX9, 22)) rfl [.int u1]) rfl rfl hl.1 rfl (lv_room (Nat.le_of_ble_eq_true rfl)) dX9_barrel_7 ⟨Nat.le_of_ble_eq_true rfl, Nat.le_of_ble_eq_true rfl⟩) (fun H locs hW hS => ?_)
  have hm := hm0
  clear hm0 hc_2
  obtain ⟨w_3, σ_3, hc_3, hm0⟩ := rc_bd_inv hm
  clear hm
  refine rc_ci hS (va_runV (As := [.int w_2]) (rest := []) ⟨hx, hb, hml, hown, hts⟩ (k_X9_ends l hT a0 w_2 h0 H.size _ _ _ hc_3) (cwV 1 hts (rc_gV tw_7_179 tw_7_181 tw_p_24 tw_1_14 tw_7_182) rfl rfl rfl (by decide +kernel) ⟨Nat.le_of_ble_eq_true rfl, Nat.le_of_ble_eq_true rfl⟩) (rc_preV hT hW hK hE hS h0 (by decide) rfl (q := (RX9, TX9, 22)) rfl [.int w_2]) rfl rfl hl.1 rfl (lv_room (Nat.le_of_ble_eq_true rfl)) dX9_barrel_10 ⟨Nat.le_of_ble_eq_true rfl, Nat.le_of_ble_eq_true rfl⟩) (fun H locs hW hS => ?_)
  have hm := hm0
  clear hm0 hc_3
  exact rc_eiret hx hb hr hlocks hW hS (Nat.le_of_ble_eq_true rfl) (Nat.le_of_ble_eq_true rfl) hm dX9_barrel_13
set_option maxHeartbeats 4000000 in
set_option maxRecDepth 100000 in
theorem k_X9_takeAway (l : Launch) {Y : rc_Y} {sh : Nat → Nat} {rf : rc_F} (hT : rc_T Y sh rf) (a0 : Nat) (u1 : Int32) (h0 : sh a0 = 10) (sz : Nat) (σ σ' : rc_S) (r : Int32) (hm : f_X9_takeAway rf a0 u1 σ = some (r, σ')) : Met l yX9_takeAway (Cond.code yX9_takeAway cX9_takeAway 2 (some .int) :: rc_big) ({ frames := 3, cells := 0, slots := 0, locals := 66 } : Room) (rc_P Y sh rf σ sz [.ref a0, .int u1]) (va_Qi (fun (r' : Int32) (_ : Unit) => r' = r) (fun _ t => rc_W Y sh rf σ' t.heap) (rc_A sh sz)) 0 0 (rc_A sh sz) := by
  refine Met.ofW (cc := cX9_takeAway) (maxL := 2) (ret := (some .int)) (by decide +kernel) rfl ?_
  intro p e s m args below meth c s₁ B hml hv
  obtain ⟨rfl, hsz, hW, hK, hE⟩ := hv
  have hx := B.exec
  have hb := B.bytes
  have hr := B.returns
  have hts : ∀ w ∈ rc_big, w.before _ s = true := fun w h => atoms_spec (ws := Cond.code yX9_takeAway cX9_takeAway 2 (some .int) :: rc_big) B.pre w (List.mem_cons_of_mem _ h)
  have hown : s.vm.findClass RX9 = some m.cls := findClass_of_methodNamed B.named
  have hlocks := B.notSynchronized
  clear B
  subst hsz
  have hS : va_S (rc_A sh s.heap.size) s.heap s.heap [] := va_S.rf
  have hl := lv_entry ([.ref a0, .int u1]) (n := 2) (Nat.le_of_ble_eq_true rfl)
  rw [lg_entry_eq]
  generalize (lg_sl ([.ref a0, .int u1]) ++ List.replicate (2 - (lg_sl ([.ref a0, .int u1])).length) Slot.unset).toArray = ls at hl ⊢
  have hl : lv_has ls 2 [(0, .ref a0), (1, .int u1)] := hl
  unfold f_X9_takeAway at hm
  refine lv_aload_n hx hb dX9_takeAway_0 rfl (lv_at hl 0 rfl) ?_
  obtain ⟨w_1, σ_1, hc_1, hm0⟩ := rc_bd_inv hm
  clear hm
  refine rc_cv hS (va_runV (As := []) (rest := []) ⟨hx, hb, hml, hown, hts⟩ (k_X9_remembers l hT a0 h0 s.heap.size _ _ _ hc_1) (cwV 0 hts (rc_gV tw_7_144 tw_7_146 tw_p_16 tw_1_14 tw_7_147) rfl rfl rfl (by decide +kernel) ⟨Nat.le_of_ble_eq_true rfl, Nat.le_of_ble_eq_true rfl⟩) (rc_preV hT hW hK hE hS h0 (by decide) rfl (q := (RX9, TX9, 22)) rfl []) rfl rfl hl.1 rfl (lv_room (Nat.le_of_ble_eq_true rfl)) dX9_takeAway_1 ⟨Nat.le_of_ble_eq_true rfl, Nat.le_of_ble_eq_true rfl⟩) (fun H locs hW hS => ?_)
  have hm := hm0
  clear hm0 hc_1
  refine lv_aload_n hx hb dX9_takeAway_4 rfl (lv_at hl 0 rfl) ?_
  refine lv_aload_n hx hb dX9_takeAway_5 rfl (lv_at hl 0 rfl) ?_
  refine lv_iload_n hx hb dX9_takeAway_6 rfl (lv_at hl 1 rfl) ?_
  obtain ⟨w_2, σ_2, hc_2, hm0⟩ := rc_bd_inv hm
  clear hm
  refine rc_ci hS (va_runV (As := [.int u1]) (rest := [.ref a0]) ⟨hx, hb, hml, hown, hts⟩ (k_X9_takes l hT a0 u1 h0 H.size _ _ _ hc_2) (cwV 1 hts (rc_gV tw_7_207 tw_7_209 tw_p_29 tw_1_14 tw_7_210) rfl rfl rfl (by decide +kernel) ⟨Nat.le_of_ble_eq_true rfl, Nat.le_of_ble_eq_true rfl⟩) (rc_preV hT hW hK hE hS h0 (by decide) rfl (q := (RX9, TX9, 22)) rfl [.int u1]) rfl rfl hl.1 rfl (lv_room (Nat.le_of_ble_eq_true rfl)) dX9_takeAway_7 ⟨Nat.le_of_ble_eq_true rfl, Nat.le_of_ble_eq_true rfl⟩) (fun H locs hW hS => ?_)
  have hm := hm0
  clear hm0 hc_2
  obtain ⟨w_3, σ_3, hc_3, hm0⟩ := rc_bd_inv hm
  clear hm
  refine rc_ci hS (va_runV (As := [.int w_2]) (rest := []) ⟨hx, hb, hml, hown, hts⟩ (k_X9_ends l hT a0 w_2 h0 H.size _ _ _ hc_3) (cwV 1 hts (rc_gV tw_7_179 tw_7_181 tw_p_24 tw_1_14 tw_7_182) rfl rfl rfl (by decide +kernel) ⟨Nat.le_of_ble_eq_true rfl, Nat.le_of_ble_eq_true rfl⟩) (rc_preV hT hW hK hE hS h0 (by decide) rfl (q := (RX9, TX9, 22)) rfl [.int w_2]) rfl rfl hl.1 rfl (lv_room (Nat.le_of_ble_eq_true rfl)) dX9_takeAway_10 ⟨Nat.le_of_ble_eq_true rfl, Nat.le_of_ble_eq_true rfl⟩) (fun H locs hW hS => ?_)
  have hm := hm0
  clear hm0 hc_3
  exact rc_eiret hx hb hr hlocks hW hS (Nat.le_of_ble_eq_true rfl) (Nat.le_of_ble_eq_true rfl) hm dX9_takeAway_13
set_option maxHeartbeats 4000000 in
set_option maxRecDepth 100000 in
theorem k_X9_pour (l : Launch) {Y : rc_Y} {sh : Nat → Nat} {rf : rc_F} (hT : rc_T Y sh rf) (a0 : Nat) (u1 : Int32) (u2 : Int32) (u3 : Int32) (h0 : sh a0 = 10) (sz : Nat) (σ σ' : rc_S) (r : Int32) (hm : f_X9_pour rf a0 u1 u2 u3 σ = some (r, σ')) : Met l yX9_pour (Cond.code yX9_pour cX9_pour 4 (some .int) :: rc_big) ({ frames := 4, cells := 0, slots := 0, locals := 93 } : Room) (rc_P Y sh rf σ sz [.ref a0, .int u1, .int u2, .int u3]) (va_Qi (fun (r' : Int32) (_ : Unit) => r' = r) (fun _ t => rc_W Y sh rf σ' t.heap) (rc_A sh sz)) 0 0 (rc_A sh sz) := by
  refine Met.ofW (cc := cX9_pour) (maxL := 4) (ret := (some .int)) (by decide +kernel) rfl ?_
  intro p e s m args below meth c s₁ B hml hv
  obtain ⟨rfl, hsz, hW, hK, hE⟩ := hv
  have hx := B.exec
  have hb := B.bytes
  have hr := B.returns
  have hts : ∀ w ∈ rc_big, w.before _ s = true := fun w h => atoms_spec (ws := Cond.code yX9_pour cX9_pour 4 (some .int) :: rc_big) B.pre w (List.mem_cons_of_mem _ h)
  have hown : s.vm.findClass RX9 = some m.cls := findClass_of_methodNamed B.named
  have hlocks := B.notSynchronized
  clear B
  subst hsz
  have hS : va_S (rc_A sh s.heap.size) s.heap s.heap [] := va_S.rf
  have hl := lv_entry ([.ref a0, .int u1, .int u2, .int u3]) (n := 4) (Nat.le_of_ble_eq_true rfl)
  rw [lg_entry_eq]
  generalize (lg_sl ([.ref a0, .int u1, .int u2, .int u3]) ++ List.replicate (4 - (lg_sl ([.ref a0, .int u1, .int u2, .int u3])).length) Slot.unset).toArray = ls at hl ⊢
  have hl : lv_has ls 4 [(0, .ref a0), (1, .int u1), (2, .int u2), (3, .int u3)] := hl
  unfold f_X9_pour at hm
  refine lv_aload_n hx hb dX9_pour_0 rfl (lv_at hl 0 rfl) ?_
  obtain ⟨w_1, σ_1, hc_1, hm0⟩ := rc_bd_inv hm
  clear hm
  refine rc_cv hS (va_runV (As := []) (rest := []) ⟨hx, hb, hml, hown, hts⟩ (k_X9_remembers l hT a0 h0 s.heap.size _ _ _ hc_1) (cwV 0 hts (rc_gV tw_7_144 tw_7_146 tw_p_16 tw_1_14 tw_7_147) rfl rfl rfl (by decide +kernel) ⟨Nat.le_of_ble_eq_true rfl, Nat.le_of_ble_eq_true rfl⟩) (rc_preV hT hW hK hE hS h0 (by decide) rfl (q := (RX9, TX9, 22)) rfl []) rfl rfl hl.1 rfl (lv_room (Nat.le_of_ble_eq_true rfl)) dX9_pour_1 ⟨Nat.le_of_ble_eq_true rfl, Nat.le_of_ble_eq_true rfl⟩) (fun H locs hW hS => ?_)
  have hm := hm0
  clear hm0 hc_1
  refine lv_aload_n hx hb dX9_pour_4 rfl (lv_at hl 0 rfl) ?_
  refine lv_aload_n hx hb dX9_pour_5 rfl (lv_at hl 0 rfl) ?_
  refine lv_iload_n hx hb dX9_pour_6 rfl (lv_at hl 1 rfl) ?_
  refine lv_iload_n hx hb dX9_pour_7 rfl (lv_at hl 2 rfl) ?_
  refine lv_iload_n hx hb dX9_pour_8 rfl (lv_at hl 3 rfl) ?_
  obtain ⟨w_2, σ_2, hc_2, hm0⟩ := rc_bd_inv hm
  clear hm
  refine rc_ci hS (va_runV (As := [.int u1, .int u2, .int u3]) (rest := [.ref a0]) ⟨hx, hb, hml, hown, hts⟩ (k_X9_pours l hT a0 u1 u2 u3 h0 H.size _ _ _ hc_2) (cwV 3 hts (rc_gV tw_7_219 tw_7_221 tw_p_31 tw_1_14 tw_7_222) rfl rfl rfl (by decide +kernel) ⟨Nat.le_of_ble_eq_true rfl, Nat.le_of_ble_eq_true rfl⟩) (rc_preV hT hW hK hE hS h0 (by decide) rfl (q := (RX9, TX9, 22)) rfl [.int u1, .int u2, .int u3]) rfl rfl hl.1 rfl (lv_room (Nat.le_of_ble_eq_true rfl)) dX9_pour_9 ⟨Nat.le_of_ble_eq_true rfl, Nat.le_of_ble_eq_true rfl⟩) (fun H locs hW hS => ?_)
  have hm := hm0
  clear hm0 hc_2
  obtain ⟨w_3, σ_3, hc_3, hm0⟩ := rc_bd_inv hm
  clear hm
  refine rc_ci hS (va_runV (As := [.int w_2]) (rest := []) ⟨hx, hb, hml, hown, hts⟩ (k_X9_ends l hT a0 w_2 h0 H.size _ _ _ hc_3) (cwV 1 hts (rc_gV tw_7_179 tw_7_181 tw_p_24 tw_1_14 tw_7_182) rfl rfl rfl (by decide +kernel) ⟨Nat.le_of_ble_eq_true rfl, Nat.le_of_ble_eq_true rfl⟩) (rc_preV hT hW hK hE hS h0 (by decide) rfl (q := (RX9, TX9, 22)) rfl [.int w_2]) rfl rfl hl.1 rfl (lv_room (Nat.le_of_ble_eq_true rfl)) dX9_pour_12 ⟨Nat.le_of_ble_eq_true rfl, Nat.le_of_ble_eq_true rfl⟩) (fun H locs hW hS => ?_)
  have hm := hm0
  clear hm0 hc_3
  exact rc_eiret hx hb hr hlocks hW hS (Nat.le_of_ble_eq_true rfl) (Nat.le_of_ble_eq_true rfl) hm dX9_pour_15
set_option maxHeartbeats 4000000 in
set_option maxRecDepth 100000 in
theorem k_X9_hail (l : Launch) {Y : rc_Y} {sh : Nat → Nat} {rf : rc_F} (hT : rc_T Y sh rf) (a0 : Nat) (u1 : Int32) (u2 : Int32) (h0 : sh a0 = 10) (sz : Nat) (σ σ' : rc_S) (r : Int32) (hm : f_X9_hail rf a0 u1 u2 σ = some (r, σ')) : Met l yX9_hail (Cond.code yX9_hail cX9_hail 3 (some .int) :: rc_big) ({ frames := 3, cells := 0, slots := 0, locals := 65 } : Room) (rc_P Y sh rf σ sz [.ref a0, .int u1, .int u2]) (va_Qi (fun (r' : Int32) (_ : Unit) => r' = r) (fun _ t => rc_W Y sh rf σ' t.heap) (rc_A sh sz)) 0 0 (rc_A sh sz) := by
  refine Met.ofW (cc := cX9_hail) (maxL := 3) (ret := (some .int)) (by decide +kernel) rfl ?_
  intro p e s m args below meth c s₁ B hml hv
  obtain ⟨rfl, hsz, hW, hK, hE⟩ := hv
  have hx := B.exec
  have hb := B.bytes
  have hr := B.returns
  have hts : ∀ w ∈ rc_big, w.before _ s = true := fun w h => atoms_spec (ws := Cond.code yX9_hail cX9_hail 3 (some .int) :: rc_big) B.pre w (List.mem_cons_of_mem _ h)
  have hown : s.vm.findClass RX9 = some m.cls := findClass_of_methodNamed B.named
  have hlocks := B.notSynchronized
  clear B
  subst hsz
  have hS : va_S (rc_A sh s.heap.size) s.heap s.heap [] := va_S.rf
  have hl := lv_entry ([.ref a0, .int u1, .int u2]) (n := 3) (Nat.le_of_ble_eq_true rfl)
  rw [lg_entry_eq]
  generalize (lg_sl ([.ref a0, .int u1, .int u2]) ++ List.replicate (3 - (lg_sl ([.ref a0, .int u1, .int u2])).length) Slot.unset).toArray = ls at hl ⊢
  have hl : lv_has ls 3 [(0, .ref a0), (1, .int u1), (2, .int u2)] := hl
  unfold f_X9_hail at hm
  refine lv_aload_n hx hb dX9_hail_0 rfl (lv_at hl 0 rfl) ?_
  obtain ⟨w_1, σ_1, hc_1, hm0⟩ := rc_bd_inv hm
  clear hm
  refine rc_cv hS (va_runV (As := []) (rest := []) ⟨hx, hb, hml, hown, hts⟩ (k_X9_remembers l hT a0 h0 s.heap.size _ _ _ hc_1) (cwV 0 hts (rc_gV tw_7_144 tw_7_146 tw_p_16 tw_1_14 tw_7_147) rfl rfl rfl (by decide +kernel) ⟨Nat.le_of_ble_eq_true rfl, Nat.le_of_ble_eq_true rfl⟩) (rc_preV hT hW hK hE hS h0 (by decide) rfl (q := (RX9, TX9, 22)) rfl []) rfl rfl hl.1 rfl (lv_room (Nat.le_of_ble_eq_true rfl)) dX9_hail_1 ⟨Nat.le_of_ble_eq_true rfl, Nat.le_of_ble_eq_true rfl⟩) (fun H locs hW hS => ?_)
  have hm := hm0
  clear hm0 hc_1
  refine lv_aload_n hx hb dX9_hail_4 rfl (lv_at hl 0 rfl) ?_
  refine lv_aload_n hx hb dX9_hail_5 rfl (lv_at hl 0 rfl) ?_
  refine lv_iload_n hx hb dX9_hail_6 rfl (lv_at hl 1 rfl) ?_
  refine lv_iload_n hx hb dX9_hail_7 rfl (lv_at hl 2 rfl) ?_
  obtain ⟨w_2, σ_2, hc_2, hm0⟩ := rc_bd_inv hm
  clear hm
  refine rc_ci hS (va_runV (As := [.int u1, .int u2]) (rest := [.ref a0]) ⟨hx, hb, hml, hown, hts⟩ (k_X9_adulterates l hT a0 u1 u2 h0 H.size _ _ _ hc_2) (cwV 2 hts (rc_gV tw_8_2 tw_8_4 tw_p_35 tw_1_14 tw_8_5) rfl rfl rfl (by decide +kernel) ⟨Nat.le_of_ble_eq_true rfl, Nat.le_of_ble_eq_true rfl⟩) (rc_preV hT hW hK hE hS h0 (by decide) rfl (q := (RX9, TX9, 22)) rfl [.int u1, .int u2]) rfl rfl hl.1 rfl (lv_room (Nat.le_of_ble_eq_true rfl)) dX9_hail_8 ⟨Nat.le_of_ble_eq_true rfl, Nat.le_of_ble_eq_true rfl⟩) (fun H locs hW hS => ?_)
  have hm := hm0
  clear hm0 hc_2
  obtain ⟨w_3, σ_3, hc_3, hm0⟩ := rc_bd_inv hm
  clear hm
  refine rc_ci hS (va_runV (As := [.int w_2]) (rest := []) ⟨hx, hb, hml, hown, hts⟩ (k_X9_ends l hT a0 w_2 h0 H.size _ _ _ hc_3) (cwV 1 hts (rc_gV tw_7_179 tw_7_181 tw_p_24 tw_1_14 tw_7_182) rfl rfl rfl (by decide +kernel) ⟨Nat.le_of_ble_eq_true rfl, Nat.le_of_ble_eq_true rfl⟩) (rc_preV hT hW hK hE hS h0 (by decide) rfl (q := (RX9, TX9, 22)) rfl [.int w_2]) rfl rfl hl.1 rfl (lv_room (Nat.le_of_ble_eq_true rfl)) dX9_hail_11 ⟨Nat.le_of_ble_eq_true rfl, Nat.le_of_ble_eq_true rfl⟩) (fun H locs hW hS => ?_)
  have hm := hm0
  clear hm0 hc_3
  exact rc_eiret hx hb hr hlocks hW hS (Nat.le_of_ble_eq_true rfl) (Nat.le_of_ble_eq_true rfl) hm dX9_hail_14
set_option maxHeartbeats 4000000 in
set_option maxRecDepth 100000 in
theorem k_X9_sommelier (l : Launch) {Y : rc_Y} {sh : Nat → Nat} {rf : rc_F} (hT : rc_T Y sh rf) (a0 : Nat) (u1 : Int32) (u2 : Int32) (h0 : sh a0 = 10) (sz : Nat) (σ σ' : rc_S) (r : Int32) (hm : f_X9_sommelier rf a0 u1 u2 σ = some (r, σ')) : Met l yX9_sommelier (Cond.code yX9_sommelier cX9_sommelier 3 (some .int) :: rc_big) ({ frames := 2, cells := 0, slots := 0, locals := 45 } : Room) (rc_P Y sh rf σ sz [.ref a0, .int u1, .int u2]) (va_Qi (fun (r' : Int32) (_ : Unit) => r' = r) (fun _ t => rc_W Y sh rf σ' t.heap) (rc_A sh sz)) 0 0 (rc_A sh sz) := by
  refine Met.ofW (cc := cX9_sommelier) (maxL := 3) (ret := (some .int)) (by decide +kernel) rfl ?_
  intro p e s m args below meth c s₁ B hml hv
  obtain ⟨rfl, hsz, hW, hK, hE⟩ := hv
  have hx := B.exec
  have hb := B.bytes
  have hr := B.returns
  have hts : ∀ w ∈ rc_big, w.before _ s = true := fun w h => atoms_spec (ws := Cond.code yX9_sommelier cX9_sommelier 3 (some .int) :: rc_big) B.pre w (List.mem_cons_of_mem _ h)
  have hown : s.vm.findClass RX9 = some m.cls := findClass_of_methodNamed B.named
  have hlocks := B.notSynchronized
  clear B
  subst hsz
  have hS : va_S (rc_A sh s.heap.size) s.heap s.heap [] := va_S.rf
  have hl := lv_entry ([.ref a0, .int u1, .int u2]) (n := 3) (Nat.le_of_ble_eq_true rfl)
  rw [lg_entry_eq]
  generalize (lg_sl ([.ref a0, .int u1, .int u2]) ++ List.replicate (3 - (lg_sl ([.ref a0, .int u1, .int u2])).length) Slot.unset).toArray = ls at hl ⊢
  have hl : lv_has ls 3 [(0, .ref a0), (1, .int u1), (2, .int u2)] := hl
  unfold f_X9_sommelier at hm
  refine lv_aload_n hx hb dX9_sommelier_0 rfl (lv_at hl 0 rfl) ?_
  obtain ⟨w_1, σ_1, hc_1, hm0⟩ := rc_bd_inv hm
  clear hm
  refine rc_cv hS (va_runV (As := []) (rest := []) ⟨hx, hb, hml, hown, hts⟩ (k_X9_remembers l hT a0 h0 s.heap.size _ _ _ hc_1) (cwV 0 hts (rc_gV tw_7_144 tw_7_146 tw_p_16 tw_1_14 tw_7_147) rfl rfl rfl (by decide +kernel) ⟨Nat.le_of_ble_eq_true rfl, Nat.le_of_ble_eq_true rfl⟩) (rc_preV hT hW hK hE hS h0 (by decide) rfl (q := (RX9, TX9, 22)) rfl []) rfl rfl hl.1 rfl (lv_room (Nat.le_of_ble_eq_true rfl)) dX9_sommelier_1 ⟨Nat.le_of_ble_eq_true rfl, Nat.le_of_ble_eq_true rfl⟩) (fun H locs hW hS => ?_)
  have hm := hm0
  clear hm0 hc_1
  refine lv_aload_n hx hb dX9_sommelier_4 rfl (lv_at hl 0 rfl) ?_
  refine lv_aload_n hx hb dX9_sommelier_5 rfl (lv_at hl 0 rfl) ?_
  refine lv_iload_n hx hb dX9_sommelier_6 rfl (lv_at hl 1 rfl) ?_
  refine lv_iload_n hx hb dX9_sommelier_7 rfl (lv_at hl 2 rfl) ?_
  refine lv_if_eq (tgt := 15) hx hb dX9_sommelier_8 (by decide) (fun c_6 => ?_) (fun c_6 => ?_)
  · replace hm := rc_t hm c_6
    refine lv_iconst (v := 0) hx hb dX9_sommelier_15 (by decide) ?_
    obtain ⟨w_2, σ_2, hc_2, hm0⟩ := rc_bd_inv hm
    clear hm
    refine rc_ci hS (va_runV (As := [.int u1, .int (0 : Int32)]) (rest := [.ref a0]) ⟨hx, hb, hml, hown, hts⟩ (k_X9_joins l hT a0 u1 (0 : Int32) h0 H.size _ _ _ hc_2) (cwV 2 hts (rc_gV tw_8_10 tw_8_12 tw_p_36 tw_1_14 tw_8_13) rfl rfl rfl (by decide +kernel) ⟨Nat.le_of_ble_eq_true rfl, Nat.le_of_ble_eq_true rfl⟩) (rc_preV hT hW hK hE hS h0 (by decide) rfl (q := (RX9, TX9, 22)) rfl [.int u1, .int (0 : Int32)]) rfl rfl hl.1 rfl (lv_room (Nat.le_of_ble_eq_true rfl)) dX9_sommelier_16 ⟨Nat.le_of_ble_eq_true rfl, Nat.le_of_ble_eq_true rfl⟩) (fun H locs hW hS => ?_)
    have hm := hm0
    clear hm0 hc_2
    obtain ⟨w_3, σ_3, hc_3, hm0⟩ := rc_bd_inv hm
    clear hm
    refine rc_ci hS (va_runV (As := [.int w_2]) (rest := []) ⟨hx, hb, hml, hown, hts⟩ (k_X9_ends l hT a0 w_2 h0 H.size _ _ _ hc_3) (cwV 1 hts (rc_gV tw_7_179 tw_7_181 tw_p_24 tw_1_14 tw_7_182) rfl rfl rfl (by decide +kernel) ⟨Nat.le_of_ble_eq_true rfl, Nat.le_of_ble_eq_true rfl⟩) (rc_preV hT hW hK hE hS h0 (by decide) rfl (q := (RX9, TX9, 22)) rfl [.int w_2]) rfl rfl hl.1 rfl (lv_room (Nat.le_of_ble_eq_true rfl)) dX9_sommelier_19 ⟨Nat.le_of_ble_eq_true rfl, Nat.le_of_ble_eq_true rfl⟩) (fun H locs hW hS => ?_)
    have hm := hm0
    clear hm0 hc_3
    exact rc_eiret hx hb hr hlocks hW hS (Nat.le_of_ble_eq_true rfl) (Nat.le_of_ble_eq_true rfl) hm dX9_sommelier_22
  · replace hm := rc_f hm c_6
    refine lv_iconst (v := 1) hx hb dX9_sommelier_11 (by decide) ?_
    refine lv_goto (tgt := 16) hx hb dX9_sommelier_12 (by decide) ?_
    obtain ⟨w_4, σ_4, hc_4, hm0⟩ := rc_bd_inv hm
    clear hm
    refine rc_ci hS (va_runV (As := [.int u1, .int (1 : Int32)]) (rest := [.ref a0]) ⟨hx, hb, hml, hown, hts⟩ (k_X9_joins l hT a0 u1 (1 : Int32) h0 H.size _ _ _ hc_4) (cwV 2 hts (rc_gV tw_8_10 tw_8_12 tw_p_36 tw_1_14 tw_8_13) rfl rfl rfl (by decide +kernel) ⟨Nat.le_of_ble_eq_true rfl, Nat.le_of_ble_eq_true rfl⟩) (rc_preV hT hW hK hE hS h0 (by decide) rfl (q := (RX9, TX9, 22)) rfl [.int u1, .int (1 : Int32)]) rfl rfl hl.1 rfl (lv_room (Nat.le_of_ble_eq_true rfl)) dX9_sommelier_16 ⟨Nat.le_of_ble_eq_true rfl, Nat.le_of_ble_eq_true rfl⟩) (fun H locs hW hS => ?_)
    have hm := hm0
    clear hm0 hc_4
    obtain ⟨w_5, σ_5, hc_5, hm0⟩ := rc_bd_inv hm
    clear hm
    refine rc_ci hS (va_runV (As := [.int w_4]) (rest := []) ⟨hx, hb, hml, hown, hts⟩ (k_X9_ends l hT a0 w_4 h0 H.size _ _ _ hc_5) (cwV 1 hts (rc_gV tw_7_179 tw_7_181 tw_p_24 tw_1_14 tw_7_182) rfl rfl rfl (by decide +kernel) ⟨Nat.le_of_ble_eq_true rfl, Nat.le_of_ble_eq_true rfl⟩) (rc_preV hT hW hK hE hS h0 (by decide) rfl (q := (RX9, TX9, 22)) rfl [.int w_4]) rfl rfl hl.1 rfl (lv_room (Nat.le_of_ble_eq_true rfl)) dX9_sommelier_19 ⟨Nat.le_of_ble_eq_true rfl, Nat.le_of_ble_eq_true rfl⟩) (fun H locs hW hS => ?_)
    have hm := hm0
    clear hm0 hc_5
    exact rc_eiret hx hb hr hlocks hW hS (Nat.le_of_ble_eq_true rfl) (Nat.le_of_ble_eq_true rfl) hm dX9_sommelier_22
set_option maxHeartbeats 4000000 in
set_option maxRecDepth 100000 in
theorem k_X9_leave (l : Launch) {Y : rc_Y} {sh : Nat → Nat} {rf : rc_F} (hT : rc_T Y sh rf) (a0 : Nat) (u1 : Int32) (h0 : sh a0 = 10) (sz : Nat) (σ σ' : rc_S) (r : Int32) (hm : f_X9_leave rf a0 u1 σ = some (r, σ')) : Met l yX9_leave (Cond.code yX9_leave cX9_leave 2 (some .int) :: rc_big) ({ frames := 3, cells := 0, slots := 0, locals := 66 } : Room) (rc_P Y sh rf σ sz [.ref a0, .int u1]) (va_Qi (fun (r' : Int32) (_ : Unit) => r' = r) (fun _ t => rc_W Y sh rf σ' t.heap) (rc_A sh sz)) 0 0 (rc_A sh sz) := by
  refine Met.ofW (cc := cX9_leave) (maxL := 2) (ret := (some .int)) (by decide +kernel) rfl ?_
  intro p e s m args below meth c s₁ B hml hv
  obtain ⟨rfl, hsz, hW, hK, hE⟩ := hv
  have hx := B.exec
  have hb := B.bytes
  have hr := B.returns
  have hts : ∀ w ∈ rc_big, w.before _ s = true := fun w h => atoms_spec (ws := Cond.code yX9_leave cX9_leave 2 (some .int) :: rc_big) B.pre w (List.mem_cons_of_mem _ h)
  have hown : s.vm.findClass RX9 = some m.cls := findClass_of_methodNamed B.named
  have hlocks := B.notSynchronized
  clear B
  subst hsz
  have hS : va_S (rc_A sh s.heap.size) s.heap s.heap [] := va_S.rf
  have hl := lv_entry ([.ref a0, .int u1]) (n := 2) (Nat.le_of_ble_eq_true rfl)
  rw [lg_entry_eq]
  generalize (lg_sl ([.ref a0, .int u1]) ++ List.replicate (2 - (lg_sl ([.ref a0, .int u1])).length) Slot.unset).toArray = ls at hl ⊢
  have hl : lv_has ls 2 [(0, .ref a0), (1, .int u1)] := hl
  unfold f_X9_leave at hm
  refine lv_aload_n hx hb dX9_leave_0 rfl (lv_at hl 0 rfl) ?_
  obtain ⟨w_1, σ_1, hc_1, hm0⟩ := rc_bd_inv hm
  clear hm
  refine rc_cv hS (va_runV (As := []) (rest := []) ⟨hx, hb, hml, hown, hts⟩ (k_X9_remembers l hT a0 h0 s.heap.size _ _ _ hc_1) (cwV 0 hts (rc_gV tw_7_144 tw_7_146 tw_p_16 tw_1_14 tw_7_147) rfl rfl rfl (by decide +kernel) ⟨Nat.le_of_ble_eq_true rfl, Nat.le_of_ble_eq_true rfl⟩) (rc_preV hT hW hK hE hS h0 (by decide) rfl (q := (RX9, TX9, 22)) rfl []) rfl rfl hl.1 rfl (lv_room (Nat.le_of_ble_eq_true rfl)) dX9_leave_1 ⟨Nat.le_of_ble_eq_true rfl, Nat.le_of_ble_eq_true rfl⟩) (fun H locs hW hS => ?_)
  have hm := hm0
  clear hm0 hc_1
  refine lv_aload_n hx hb dX9_leave_4 rfl (lv_at hl 0 rfl) ?_
  refine lv_aload_n hx hb dX9_leave_5 rfl (lv_at hl 0 rfl) ?_
  refine lv_iload_n hx hb dX9_leave_6 rfl (lv_at hl 1 rfl) ?_
  obtain ⟨w_2, σ_2, hc_2, hm0⟩ := rc_bd_inv hm
  clear hm
  refine rc_ci hS (va_runV (As := [.int u1]) (rest := [.ref a0]) ⟨hx, hb, hml, hown, hts⟩ (k_X9_leaves l hT a0 u1 h0 H.size _ _ _ hc_2) (cwV 1 hts (rc_gV tw_8_18 tw_8_20 tw_p_37 tw_1_14 tw_8_21) rfl rfl rfl (by decide +kernel) ⟨Nat.le_of_ble_eq_true rfl, Nat.le_of_ble_eq_true rfl⟩) (rc_preV hT hW hK hE hS h0 (by decide) rfl (q := (RX9, TX9, 22)) rfl [.int u1]) rfl rfl hl.1 rfl (lv_room (Nat.le_of_ble_eq_true rfl)) dX9_leave_7 ⟨Nat.le_of_ble_eq_true rfl, Nat.le_of_ble_eq_true rfl⟩) (fun H locs hW hS => ?_)
  have hm := hm0
  clear hm0 hc_2
  obtain ⟨w_3, σ_3, hc_3, hm0⟩ := rc_bd_inv hm
  clear hm
  refine rc_ci hS (va_runV (As := [.int w_2]) (rest := []) ⟨hx, hb, hml, hown, hts⟩ (k_X9_ends l hT a0 w_2 h0 H.size _ _ _ hc_3) (cwV 1 hts (rc_gV tw_7_179 tw_7_181 tw_p_24 tw_1_14 tw_7_182) rfl rfl rfl (by decide +kernel) ⟨Nat.le_of_ble_eq_true rfl, Nat.le_of_ble_eq_true rfl⟩) (rc_preV hT hW hK hE hS h0 (by decide) rfl (q := (RX9, TX9, 22)) rfl [.int w_2]) rfl rfl hl.1 rfl (lv_room (Nat.le_of_ble_eq_true rfl)) dX9_leave_10 ⟨Nat.le_of_ble_eq_true rfl, Nat.le_of_ble_eq_true rfl⟩) (fun H locs hW hS => ?_)
  have hm := hm0
  clear hm0 hc_3
  exact rc_eiret hx hb hr hlocks hW hS (Nat.le_of_ble_eq_true rfl) (Nat.le_of_ble_eq_true rfl) hm dX9_leave_13
set_option maxHeartbeats 4000000 in
set_option maxRecDepth 100000 in
theorem k_X9_drink (l : Launch) {Y : rc_Y} {sh : Nat → Nat} {rf : rc_F} (hT : rc_T Y sh rf) (a0 : Nat) (u1 : Int32) (h0 : sh a0 = 10) (sz : Nat) (σ σ' : rc_S) (r : Int32) (hm : f_X9_drink rf a0 u1 σ = some (r, σ')) : Met l yX9_drink (Cond.code yX9_drink cX9_drink 2 (some .int) :: rc_big) ({ frames := 4, cells := 0, slots := 0, locals := 91 } : Room) (rc_P Y sh rf σ sz [.ref a0, .int u1]) (va_Qi (fun (r' : Int32) (_ : Unit) => r' = r) (fun _ t => rc_W Y sh rf σ' t.heap) (rc_A sh sz)) 0 0 (rc_A sh sz) := by
  refine Met.ofW (cc := cX9_drink) (maxL := 2) (ret := (some .int)) (by decide +kernel) rfl ?_
  intro p e s m args below meth c s₁ B hml hv
  obtain ⟨rfl, hsz, hW, hK, hE⟩ := hv
  have hx := B.exec
  have hb := B.bytes
  have hr := B.returns
  have hts : ∀ w ∈ rc_big, w.before _ s = true := fun w h => atoms_spec (ws := Cond.code yX9_drink cX9_drink 2 (some .int) :: rc_big) B.pre w (List.mem_cons_of_mem _ h)
  have hown : s.vm.findClass RX9 = some m.cls := findClass_of_methodNamed B.named
  have hlocks := B.notSynchronized
  clear B
  subst hsz
  have hS : va_S (rc_A sh s.heap.size) s.heap s.heap [] := va_S.rf
  have hl := lv_entry ([.ref a0, .int u1]) (n := 2) (Nat.le_of_ble_eq_true rfl)
  rw [lg_entry_eq]
  generalize (lg_sl ([.ref a0, .int u1]) ++ List.replicate (2 - (lg_sl ([.ref a0, .int u1])).length) Slot.unset).toArray = ls at hl ⊢
  have hl : lv_has ls 2 [(0, .ref a0), (1, .int u1)] := hl
  unfold f_X9_drink at hm
  refine lv_aload_n hx hb dX9_drink_0 rfl (lv_at hl 0 rfl) ?_
  obtain ⟨w_1, σ_1, hc_1, hm0⟩ := rc_bd_inv hm
  clear hm
  refine rc_cv hS (va_runV (As := []) (rest := []) ⟨hx, hb, hml, hown, hts⟩ (k_X9_remembers l hT a0 h0 s.heap.size _ _ _ hc_1) (cwV 0 hts (rc_gV tw_7_144 tw_7_146 tw_p_16 tw_1_14 tw_7_147) rfl rfl rfl (by decide +kernel) ⟨Nat.le_of_ble_eq_true rfl, Nat.le_of_ble_eq_true rfl⟩) (rc_preV hT hW hK hE hS h0 (by decide) rfl (q := (RX9, TX9, 22)) rfl []) rfl rfl hl.1 rfl (lv_room (Nat.le_of_ble_eq_true rfl)) dX9_drink_1 ⟨Nat.le_of_ble_eq_true rfl, Nat.le_of_ble_eq_true rfl⟩) (fun H locs hW hS => ?_)
  have hm := hm0
  clear hm0 hc_1
  refine lv_aload_n hx hb dX9_drink_4 rfl (lv_at hl 0 rfl) ?_
  refine lv_aload_n hx hb dX9_drink_5 rfl (lv_at hl 0 rfl) ?_
  refine lv_iload_n hx hb dX9_drink_6 rfl (lv_at hl 1 rfl) ?_
  obtain ⟨w_2, σ_2, hc_2, hm0⟩ := rc_bd_inv hm
  clear hm
  refine rc_ci hS (va_runV (As := [.int u1]) (rest := [.ref a0]) ⟨hx, hb, hml, hown, hts⟩ (k_X9_drinks l hT a0 u1 h0 H.size _ _ _ hc_2) (cwV 1 hts (rc_gV tw_8_30 tw_8_32 tw_p_39 tw_1_14 tw_8_33) rfl rfl rfl (by decide +kernel) ⟨Nat.le_of_ble_eq_true rfl, Nat.le_of_ble_eq_true rfl⟩) (rc_preV hT hW hK hE hS h0 (by decide) rfl (q := (RX9, TX9, 22)) rfl [.int u1]) rfl rfl hl.1 rfl (lv_room (Nat.le_of_ble_eq_true rfl)) dX9_drink_7 ⟨Nat.le_of_ble_eq_true rfl, Nat.le_of_ble_eq_true rfl⟩) (fun H locs hW hS => ?_)
  have hm := hm0
  clear hm0 hc_2
  obtain ⟨w_3, σ_3, hc_3, hm0⟩ := rc_bd_inv hm
  clear hm
  refine rc_ci hS (va_runV (As := [.int w_2]) (rest := []) ⟨hx, hb, hml, hown, hts⟩ (k_X9_ends l hT a0 w_2 h0 H.size _ _ _ hc_3) (cwV 1 hts (rc_gV tw_7_179 tw_7_181 tw_p_24 tw_1_14 tw_7_182) rfl rfl rfl (by decide +kernel) ⟨Nat.le_of_ble_eq_true rfl, Nat.le_of_ble_eq_true rfl⟩) (rc_preV hT hW hK hE hS h0 (by decide) rfl (q := (RX9, TX9, 22)) rfl [.int w_2]) rfl rfl hl.1 rfl (lv_room (Nat.le_of_ble_eq_true rfl)) dX9_drink_10 ⟨Nat.le_of_ble_eq_true rfl, Nat.le_of_ble_eq_true rfl⟩) (fun H locs hW hS => ?_)
  have hm := hm0
  clear hm0 hc_3
  exact rc_eiret hx hb hr hlocks hW hS (Nat.le_of_ble_eq_true rfl) (Nat.le_of_ble_eq_true rfl) hm dX9_drink_13
set_option maxHeartbeats 4000000 in
set_option maxRecDepth 100000 in
theorem k_X9_clear (l : Launch) {Y : rc_Y} {sh : Nat → Nat} {rf : rc_F} (hT : rc_T Y sh rf) (a0 : Nat) (u1 : Int32) (h0 : sh a0 = 10) (sz : Nat) (σ σ' : rc_S) (r : Int32) (hm : f_X9_clear rf a0 u1 σ = some (r, σ')) : Met l yX9_clear (Cond.code yX9_clear cX9_clear 2 (some .int) :: rc_big) ({ frames := 2, cells := 0, slots := 0, locals := 44 } : Room) (rc_P Y sh rf σ sz [.ref a0, .int u1]) (va_Qi (fun (r' : Int32) (_ : Unit) => r' = r) (fun _ t => rc_W Y sh rf σ' t.heap) (rc_A sh sz)) 0 0 (rc_A sh sz) := by
  refine Met.ofW (cc := cX9_clear) (maxL := 2) (ret := (some .int)) (by decide +kernel) rfl ?_
  intro p e s m args below meth c s₁ B hml hv
  obtain ⟨rfl, hsz, hW, hK, hE⟩ := hv
  have hx := B.exec
  have hb := B.bytes
  have hr := B.returns
  have hts : ∀ w ∈ rc_big, w.before _ s = true := fun w h => atoms_spec (ws := Cond.code yX9_clear cX9_clear 2 (some .int) :: rc_big) B.pre w (List.mem_cons_of_mem _ h)
  have hown : s.vm.findClass RX9 = some m.cls := findClass_of_methodNamed B.named
  have hlocks := B.notSynchronized
  clear B
  subst hsz
  have hS : va_S (rc_A sh s.heap.size) s.heap s.heap [] := va_S.rf
  have hl := lv_entry ([.ref a0, .int u1]) (n := 2) (Nat.le_of_ble_eq_true rfl)
  rw [lg_entry_eq]
  generalize (lg_sl ([.ref a0, .int u1]) ++ List.replicate (2 - (lg_sl ([.ref a0, .int u1])).length) Slot.unset).toArray = ls at hl ⊢
  have hl : lv_has ls 2 [(0, .ref a0), (1, .int u1)] := hl
  unfold f_X9_clear at hm
  refine lv_aload_n hx hb dX9_clear_0 rfl (lv_at hl 0 rfl) ?_
  obtain ⟨w_1, σ_1, hc_1, hm0⟩ := rc_bd_inv hm
  clear hm
  refine rc_cv hS (va_runV (As := []) (rest := []) ⟨hx, hb, hml, hown, hts⟩ (k_X9_remembers l hT a0 h0 s.heap.size _ _ _ hc_1) (cwV 0 hts (rc_gV tw_7_144 tw_7_146 tw_p_16 tw_1_14 tw_7_147) rfl rfl rfl (by decide +kernel) ⟨Nat.le_of_ble_eq_true rfl, Nat.le_of_ble_eq_true rfl⟩) (rc_preV hT hW hK hE hS h0 (by decide) rfl (q := (RX9, TX9, 22)) rfl []) rfl rfl hl.1 rfl (lv_room (Nat.le_of_ble_eq_true rfl)) dX9_clear_1 ⟨Nat.le_of_ble_eq_true rfl, Nat.le_of_ble_eq_true rfl⟩) (fun H locs hW hS => ?_)
  have hm := hm0
  clear hm0 hc_1
  refine lv_aload_n hx hb dX9_clear_4 rfl (lv_at hl 0 rfl) ?_
  refine lv_aload_n hx hb dX9_clear_5 rfl (lv_at hl 0 rfl) ?_
  refine lv_iload_n hx hb dX9_clear_6 rfl (lv_at hl 1 rfl) ?_
  obtain ⟨w_2, σ_2, hc_2, hm0⟩ := rc_bd_inv hm
  clear hm
  refine rc_ci hS (va_runV (As := [.int u1]) (rest := [.ref a0]) ⟨hx, hb, hml, hown, hts⟩ (k_X9_clears l hT a0 u1 h0 H.size _ _ _ hc_2) (cwV 1 hts (rc_gV tw_8_54 tw_8_56 tw_p_44 tw_1_14 tw_8_57) rfl rfl rfl (by decide +kernel) ⟨Nat.le_of_ble_eq_true rfl, Nat.le_of_ble_eq_true rfl⟩) (rc_preV hT hW hK hE hS h0 (by decide) rfl (q := (RX9, TX9, 22)) rfl [.int u1]) rfl rfl hl.1 rfl (lv_room (Nat.le_of_ble_eq_true rfl)) dX9_clear_7 ⟨Nat.le_of_ble_eq_true rfl, Nat.le_of_ble_eq_true rfl⟩) (fun H locs hW hS => ?_)
  have hm := hm0
  clear hm0 hc_2
  obtain ⟨w_3, σ_3, hc_3, hm0⟩ := rc_bd_inv hm
  clear hm
  refine rc_ci hS (va_runV (As := [.int w_2]) (rest := []) ⟨hx, hb, hml, hown, hts⟩ (k_X9_ends l hT a0 w_2 h0 H.size _ _ _ hc_3) (cwV 1 hts (rc_gV tw_7_179 tw_7_181 tw_p_24 tw_1_14 tw_7_182) rfl rfl rfl (by decide +kernel) ⟨Nat.le_of_ble_eq_true rfl, Nat.le_of_ble_eq_true rfl⟩) (rc_preV hT hW hK hE hS h0 (by decide) rfl (q := (RX9, TX9, 22)) rfl [.int w_2]) rfl rfl hl.1 rfl (lv_room (Nat.le_of_ble_eq_true rfl)) dX9_clear_10 ⟨Nat.le_of_ble_eq_true rfl, Nat.le_of_ble_eq_true rfl⟩) (fun H locs hW hS => ?_)
  have hm := hm0
  clear hm0 hc_3
  exact rc_eiret hx hb hr hlocks hW hS (Nat.le_of_ble_eq_true rfl) (Nat.le_of_ble_eq_true rfl) hm dX9_clear_13
set_option maxHeartbeats 4000000 in
set_option maxRecDepth 100000 in
theorem k_X9_year (l : Launch) {Y : rc_Y} {sh : Nat → Nat} {rf : rc_F} (hT : rc_T Y sh rf) (a0 : Nat) (h0 : sh a0 = 10) (sz : Nat) (σ σ' : rc_S) (r : Int32) (hm : f_X9_year rf a0 σ = some (r, σ')) : Met l yX9_year (Cond.code yX9_year cX9_year 1 (some .int) :: rc_big) ({ frames := 2, cells := 0, slots := 0, locals := 43 } : Room) (rc_P Y sh rf σ sz [.ref a0]) (va_Qi (fun (r' : Int32) (_ : Unit) => r' = r) (fun _ t => rc_W Y sh rf σ' t.heap) (rc_A sh sz)) 0 0 (rc_A sh sz) := by
  refine Met.ofW (cc := cX9_year) (maxL := 1) (ret := (some .int)) (by decide +kernel) rfl ?_
  intro p e s m args below meth c s₁ B hml hv
  obtain ⟨rfl, hsz, hW, hK, hE⟩ := hv
  have hx := B.exec
  have hb := B.bytes
  have hr := B.returns
  have hts : ∀ w ∈ rc_big, w.before _ s = true := fun w h => atoms_spec (ws := Cond.code yX9_year cX9_year 1 (some .int) :: rc_big) B.pre w (List.mem_cons_of_mem _ h)
  have hown : s.vm.findClass RX9 = some m.cls := findClass_of_methodNamed B.named
  have hlocks := B.notSynchronized
  clear B
  subst hsz
  have hS : va_S (rc_A sh s.heap.size) s.heap s.heap [] := va_S.rf
  have hl := lv_entry ([.ref a0]) (n := 1) (Nat.le_of_ble_eq_true rfl)
  rw [lg_entry_eq]
  generalize (lg_sl ([.ref a0]) ++ List.replicate (1 - (lg_sl ([.ref a0])).length) Slot.unset).toArray = ls at hl ⊢
  have hl : lv_has ls 1 [(0, .ref a0)] := hl
  unfold f_X9_year at hm
  refine lv_aload_n hx hb dX9_year_0 rfl (lv_at hl 0 rfl) ?_
  obtain ⟨w_1, σ_1, hc_1, hm0⟩ := rc_bd_inv hm
  clear hm
  refine rc_cv hS (va_runV (As := []) (rest := []) ⟨hx, hb, hml, hown, hts⟩ (k_X9_remembers l hT a0 h0 s.heap.size _ _ _ hc_1) (cwV 0 hts (rc_gV tw_7_144 tw_7_146 tw_p_16 tw_1_14 tw_7_147) rfl rfl rfl (by decide +kernel) ⟨Nat.le_of_ble_eq_true rfl, Nat.le_of_ble_eq_true rfl⟩) (rc_preV hT hW hK hE hS h0 (by decide) rfl (q := (RX9, TX9, 22)) rfl []) rfl rfl hl.1 rfl (lv_room (Nat.le_of_ble_eq_true rfl)) dX9_year_1 ⟨Nat.le_of_ble_eq_true rfl, Nat.le_of_ble_eq_true rfl⟩) (fun H locs hW hS => ?_)
  have hm := hm0
  clear hm0 hc_1
  refine lv_aload_n hx hb dX9_year_4 rfl (lv_at hl 0 rfl) ?_
  refine lv_aload_n hx hb dX9_year_5 rfl (lv_at hl 0 rfl) ?_
  obtain ⟨w_2, σ_2, hc_2, hm0⟩ := rc_bd_inv hm
  clear hm
  refine rc_ci hS (va_runV (As := []) (rest := [.ref a0]) ⟨hx, hb, hml, hown, hts⟩ (k_X9_passes l hT a0 h0 H.size _ _ _ hc_2) (cwV 0 hts (rc_gV tw_8_62 tw_8_64 tw_p_45 tw_1_14 tw_8_65) rfl rfl rfl (by decide +kernel) ⟨Nat.le_of_ble_eq_true rfl, Nat.le_of_ble_eq_true rfl⟩) (rc_preV hT hW hK hE hS h0 (by decide) rfl (q := (RX9, TX9, 22)) rfl []) rfl rfl hl.1 rfl (lv_room (Nat.le_of_ble_eq_true rfl)) dX9_year_6 ⟨Nat.le_of_ble_eq_true rfl, Nat.le_of_ble_eq_true rfl⟩) (fun H locs hW hS => ?_)
  have hm := hm0
  clear hm0 hc_2
  obtain ⟨w_3, σ_3, hc_3, hm0⟩ := rc_bd_inv hm
  clear hm
  refine rc_ci hS (va_runV (As := [.int w_2]) (rest := []) ⟨hx, hb, hml, hown, hts⟩ (k_X9_ends l hT a0 w_2 h0 H.size _ _ _ hc_3) (cwV 1 hts (rc_gV tw_7_179 tw_7_181 tw_p_24 tw_1_14 tw_7_182) rfl rfl rfl (by decide +kernel) ⟨Nat.le_of_ble_eq_true rfl, Nat.le_of_ble_eq_true rfl⟩) (rc_preV hT hW hK hE hS h0 (by decide) rfl (q := (RX9, TX9, 22)) rfl [.int w_2]) rfl rfl hl.1 rfl (lv_room (Nat.le_of_ble_eq_true rfl)) dX9_year_9 ⟨Nat.le_of_ble_eq_true rfl, Nat.le_of_ble_eq_true rfl⟩) (fun H locs hW hS => ?_)
  have hm := hm0
  clear hm0 hc_3
  exact rc_eiret hx hb hr hlocks hW hS (Nat.le_of_ble_eq_true rfl) (Nat.le_of_ble_eq_true rfl) hm dX9_year_12
set_option maxHeartbeats 4000000 in
set_option maxRecDepth 100000 in
theorem k_X9_under (l : Launch) {Y : rc_Y} {sh : Nat → Nat} {rf : rc_F} (hT : rc_T Y sh rf) (a0 : Nat) (u1 : Int32) (u2 : Int32) (h0 : sh a0 = 10) (sz : Nat) (σ σ' : rc_S) (r : Int32) (hm : f_X9_under rf a0 u1 u2 σ = some (r, σ')) : Met l yX9_under (Cond.code yX9_under cX9_under 5 (some .int) :: rc_big) ({ frames := 1, cells := 0, slots := 0, locals := 22 } : Room) (rc_P Y sh rf σ sz [.ref a0, .int u1, .int u2]) (va_Qi (fun (r' : Int32) (_ : Unit) => r' = r) (fun _ t => rc_W Y sh rf σ' t.heap) (rc_A sh sz)) 0 0 (rc_A sh sz) := by
  refine Met.ofW (cc := cX9_under) (maxL := 5) (ret := (some .int)) (by decide +kernel) rfl ?_
  intro p e s m args below meth c s₁ B hml hv
  obtain ⟨rfl, hsz, hW, hK, hE⟩ := hv
  have hx := B.exec
  have hb := B.bytes
  have hr := B.returns
  have hts : ∀ w ∈ rc_big, w.before _ s = true := fun w h => atoms_spec (ws := Cond.code yX9_under cX9_under 5 (some .int) :: rc_big) B.pre w (List.mem_cons_of_mem _ h)
  have hown : s.vm.findClass RX9 = some m.cls := findClass_of_methodNamed B.named
  have hlocks := B.notSynchronized
  clear B
  subst hsz
  have hS : va_S (rc_A sh s.heap.size) s.heap s.heap [] := va_S.rf
  have hl := lv_entry ([.ref a0, .int u1, .int u2]) (n := 5) (Nat.le_of_ble_eq_true rfl)
  rw [lg_entry_eq]
  generalize (lg_sl ([.ref a0, .int u1, .int u2]) ++ List.replicate (5 - (lg_sl ([.ref a0, .int u1, .int u2])).length) Slot.unset).toArray = ls at hl ⊢
  have hl : lv_has ls 5 [(0, .ref a0), (1, .int u1), (2, .int u2)] := hl
  have lp_5 : ∀ (v1 : Int32) (v2 : Int32) (K : Int32 → Int32 → rc_S → Option (Int32 × rc_S)) (hKK : ∀ (v3 v4 : Int32) (σ : rc_S) (H : Heap) (locs : List Loc) (ls : Array Slot), K v3 v4 σ = some (r, σ') → rc_W Y sh rf σ H → va_S (rc_A sh s.heap.size) s.heap H locs → lv_has ls 5 [(3, .int v3)] → W p l e (headSpec (Cond.code yX9_under cX9_under 5 (some .int) :: rc_big) ({ frames := 1, cells := 0, slots := 0, locals := 22 } : Room)).room s m (([.ref a0, .int u1, .int u2] : List Value).toArray) below meth c H locs 0 0 (MQ below (va_Qi (fun (r' : Int32) (_ : Unit) => r' = r) (fun _ t => rc_W Y sh rf σ' t.heap) (rc_A sh s.heap.size)) ([.ref a0, .int u1, .int u2] : List Value).toArray s 0 0 (rc_A sh s.heap.size)) (F0 m 78 ls [])) (n : Nat) (v3 v4 : Int32) (σ : rc_S) (H : Heap) (locs : List Loc) (ls : Array Slot), f_X9_under_5 rf a0 v1 v2 K n v3 v4 σ = some (r, σ') → rc_W Y sh rf σ H → va_S (rc_A sh s.heap.size) s.heap H locs → lv_has ls 5 [(0, .ref a0), (1, .int v1), (2, .int v2), (3, .int v3), (4, .int v4)] → W p l e (headSpec (Cond.code yX9_under cX9_under 5 (some .int) :: rc_big) ({ frames := 1, cells := 0, slots := 0, locals := 22 } : Room)).room s m (([.ref a0, .int u1, .int u2] : List Value).toArray) below meth c H locs 0 0 (MQ below (va_Qi (fun (r' : Int32) (_ : Unit) => r' = r) (fun _ t => rc_W Y sh rf σ' t.heap) (rc_A sh s.heap.size)) ([.ref a0, .int u1, .int u2] : List Value).toArray s 0 0 (rc_A sh s.heap.size)) (F0 m 5 ls []) := by
    intro v1 v2 K hKK n
    induction n with
    | zero =>
      intro v3 v4 σ H locs ls hm
      rw [f_X9_under_5] at hm
      cases hm
    | succ n ih =>
      intro v3 v4 σ H locs ls hm hW hS hl
      rw [f_X9_under_5] at hm
      refine lv_iload hx hb dX9_under_5 (lv_at hl 4 rfl) ?_
      refine lv_aload_n hx hb dX9_under_7 rfl (lv_at hl 0 rfl) ?_
      refine rg_10_1 hx hb hts hown hK hW h0 tw_7_70 dX9_under_8 ?_
      refine lv_iconst (v := 0) hx hb dX9_under_11 (by decide) ?_
      refine rc_ialdj (j := 0) hx hb hK hW (rc_t_10_1 hT h0) (by decide) rfl (rc_inD (by decide)) (by decide) dX9_under_12 ?_
      refine lv_icmp_ge (tgt := 78) hx hb dX9_under_13 (by decide) (fun c_17 => ?_) (fun c_17 => ?_)
      · replace hm := rc_t hm c_17
        exact hKK v3 v4 σ _ _ _ hm hW hS (lv_sub hl [3] rfl)
      · replace hm := rc_f hm c_17
        refine lv_aload_n hx hb dX9_under_16 rfl (lv_at hl 0 rfl) ?_
        refine lv_iload hx hb dX9_under_17 (lv_at hl 4 rfl) ?_
        refine lv_iconst (v := 0) hx hb dX9_under_19 (by decide) ?_
        obtain ⟨w_1, σ_1, hc_1, hm0⟩ := rc_bd_inv hm
        clear hm
        refine rc_ci hS (va_runV (As := [.int v4, .int (0 : Int32)]) (rest := []) ⟨hx, hb, hml, hown, hts⟩ (k_X9_of l hT a0 v4 (0 : Int32) h0 H.size _ _ _ hc_1) (cwV 2 hts (rc_gV tw_7_163 tw_7_165 tw_p_20 tw_1_14 tw_7_166) rfl rfl rfl (by decide +kernel) ⟨Nat.le_of_ble_eq_true rfl, Nat.le_of_ble_eq_true rfl⟩) (rc_preV hT hW hK hE hS h0 (by decide) rfl (q := (RX9, TX9, 22)) rfl [.int v4, .int (0 : Int32)]) rfl rfl hl.1 rfl (lv_room (Nat.le_of_ble_eq_true rfl)) dX9_under_20 ⟨Nat.le_of_ble_eq_true rfl, Nat.le_of_ble_eq_true rfl⟩) (fun H locs hW hS => ?_)
        have hm := hm0
        clear hm0 hc_1
        refine lv_iload_n hx hb dX9_under_23 rfl (lv_at hl 1 rfl) ?_
        refine lv_icmp_eq (tgt := 30) hx hb dX9_under_24 (by decide) (fun c_16 => ?_) (fun c_16 => ?_)
        · replace hm := rc_t hm c_16
          refine lv_iload_n hx hb dX9_under_30 rfl (lv_at hl 3 rfl) ?_
          refine lv_iload_n hx hb dX9_under_31 rfl (lv_at hl 2 rfl) ?_
          refine lv_iconst (v := 1) hx hb dX9_under_32 (by decide) ?_
          refine lv_icmp_ne (tgt := 40) hx hb dX9_under_33 (by decide) (fun c_14 => ?_) (fun c_14 => ?_)
          · replace hm := rc_f hm c_14
            refine lv_iload_n hx hb dX9_under_40 rfl (lv_at hl 2 rfl) ?_
            refine lv_iconst (v := 2) hx hb dX9_under_41 (by decide) ?_
            refine lv_icmp_ne (tgt := 63) hx hb dX9_under_42 (by decide) (fun c_11 => ?_) (fun c_11 => ?_)
            · replace hm := rc_f hm c_11
              refine lv_aload_n hx hb dX9_under_63 rfl (lv_at hl 0 rfl) ?_
              refine lv_iload hx hb dX9_under_64 (lv_at hl 4 rfl) ?_
              refine lv_iconst (v := 1) hx hb dX9_under_66 (by decide) ?_
              obtain ⟨w_2, σ_2, hc_2, hm0⟩ := rc_bd_inv hm
              clear hm
              refine rc_ci hS (va_runV (As := [.int v4, .int (1 : Int32)]) (rest := [.int v3]) ⟨hx, hb, hml, hown, hts⟩ (k_X9_of l hT a0 v4 (1 : Int32) h0 H.size _ _ _ hc_2) (cwV 2 hts (rc_gV tw_7_163 tw_7_165 tw_p_20 tw_1_14 tw_7_166) rfl rfl rfl (by decide +kernel) ⟨Nat.le_of_ble_eq_true rfl, Nat.le_of_ble_eq_true rfl⟩) (rc_preV hT hW hK hE hS h0 (by decide) rfl (q := (RX9, TX9, 22)) rfl [.int v4, .int (1 : Int32)]) rfl rfl hl.1 rfl (lv_room (Nat.le_of_ble_eq_true rfl)) dX9_under_67 ⟨Nat.le_of_ble_eq_true rfl, Nat.le_of_ble_eq_true rfl⟩) (fun H locs hW hS => ?_)
              have hm := hm0
              clear hm0 hc_2
              refine lv_iadd hx hb dX9_under_70 ?_
              refine lv_topi (fun v3_3 ev => ?_)
              replace hm := rc_lt_at hm ev
              clear ev
              refine lv_istore_n (lv' := [(3, .int v3_3), (0, .ref a0), (1, .int v1), (2, .int v2), (4, .int v4)]) hx hb dX9_under_71 rfl hl (by decide) rfl (fun ls hl => ?_)
              obtain ⟨v4_4, ev⟩ : ∃ y : Int32, y = (v4 + 1) := ⟨_, rfl⟩
              replace hm := rc_lt_at hm ev
              refine lv_iinc (v := v4_4) (lv' := [(4, .int v4_4), (3, .int v3_3), (0, .ref a0), (1, .int v1), (2, .int v2)]) hx hb dX9_under_72 hl (k := 4) rfl (by rw [ev]; rfl) (by decide) rfl (fun ls hl => ?_)
              clear ev
              refine lv_goto (tgt := 5) hx hb dX9_under_75 (by decide) ?_
              exact ih v3_3 v4_4 σ_2 _ _ _ hm hW hS (lv_sub hl [2, 3, 4, 1, 0] rfl)
            · replace hm := rc_t hm c_11
              refine lv_aload_n hx hb dX9_under_45 rfl (lv_at hl 0 rfl) ?_
              refine lv_iload hx hb dX9_under_46 (lv_at hl 4 rfl) ?_
              refine lv_iconst (v := 1) hx hb dX9_under_48 (by decide) ?_
              obtain ⟨w_5, σ_5, hc_5, hm0⟩ := rc_bd_inv hm
              clear hm
              refine rc_ci hS (va_runV (As := [.int v4, .int (1 : Int32)]) (rest := [.int v3]) ⟨hx, hb, hml, hown, hts⟩ (k_X9_of l hT a0 v4 (1 : Int32) h0 H.size _ _ _ hc_5) (cwV 2 hts (rc_gV tw_7_163 tw_7_165 tw_p_20 tw_1_14 tw_7_166) rfl rfl rfl (by decide +kernel) ⟨Nat.le_of_ble_eq_true rfl, Nat.le_of_ble_eq_true rfl⟩) (rc_preV hT hW hK hE hS h0 (by decide) rfl (q := (RX9, TX9, 22)) rfl [.int v4, .int (1 : Int32)]) rfl rfl hl.1 rfl (lv_room (Nat.le_of_ble_eq_true rfl)) dX9_under_49 ⟨Nat.le_of_ble_eq_true rfl, Nat.le_of_ble_eq_true rfl⟩) (fun H locs hW hS => ?_)
              have hm := hm0
              clear hm0 hc_5
              refine lv_if_ne (tgt := 59) hx hb dX9_under_52 (by decide) (fun c_10 => ?_) (fun c_10 => ?_)
              · replace hm := rc_f hm c_10
                refine lv_iconst (v := 0) hx hb dX9_under_59 (by decide) ?_
                refine lv_goto (tgt := 70) hx hb dX9_under_60 (by decide) ?_
                refine lv_iadd hx hb dX9_under_70 ?_
                refine lv_topi (fun v3_6 ev => ?_)
                replace hm := rc_lt_at hm ev
                clear ev
                refine lv_istore_n (lv' := [(3, .int v3_6), (0, .ref a0), (1, .int v1), (2, .int v2), (4, .int v4)]) hx hb dX9_under_71 rfl hl (by decide) rfl (fun ls hl => ?_)
                obtain ⟨v4_7, ev⟩ : ∃ y : Int32, y = (v4 + 1) := ⟨_, rfl⟩
                replace hm := rc_lt_at hm ev
                refine lv_iinc (v := v4_7) (lv' := [(4, .int v4_7), (3, .int v3_6), (0, .ref a0), (1, .int v1), (2, .int v2)]) hx hb dX9_under_72 hl (k := 4) rfl (by rw [ev]; rfl) (by decide) rfl (fun ls hl => ?_)
                clear ev
                refine lv_goto (tgt := 5) hx hb dX9_under_75 (by decide) ?_
                exact ih v3_6 v4_7 σ_5 _ _ _ hm hW hS (lv_sub hl [2, 3, 4, 1, 0] rfl)
              · replace hm := rc_t hm c_10
                refine lv_iconst (v := 1) hx hb dX9_under_55 (by decide) ?_
                refine lv_goto (tgt := 70) hx hb dX9_under_56 (by decide) ?_
                refine lv_iadd hx hb dX9_under_70 ?_
                refine lv_topi (fun v3_8 ev => ?_)
                replace hm := rc_lt_at hm ev
                clear ev
                refine lv_istore_n (lv' := [(3, .int v3_8), (0, .ref a0), (1, .int v1), (2, .int v2), (4, .int v4)]) hx hb dX9_under_71 rfl hl (by decide) rfl (fun ls hl => ?_)
                obtain ⟨v4_9, ev⟩ : ∃ y : Int32, y = (v4 + 1) := ⟨_, rfl⟩
                replace hm := rc_lt_at hm ev
                refine lv_iinc (v := v4_9) (lv' := [(4, .int v4_9), (3, .int v3_8), (0, .ref a0), (1, .int v1), (2, .int v2)]) hx hb dX9_under_72 hl (k := 4) rfl (by rw [ev]; rfl) (by decide) rfl (fun ls hl => ?_)
                clear ev
                refine lv_goto (tgt := 5) hx hb dX9_under_75 (by decide) ?_
                exact ih v3_8 v4_9 σ_5 _ _ _ hm hW hS (lv_sub hl [2, 3, 4, 1, 0] rfl)
          · replace hm := rc_t hm c_14
            refine lv_iconst (v := 1) hx hb dX9_under_36 (by decide) ?_
            refine lv_goto (tgt := 70) hx hb dX9_under_37 (by decide) ?_
            refine lv_iadd hx hb dX9_under_70 ?_
            refine lv_topi (fun v3_12 ev => ?_)
            replace hm := rc_lt_at hm ev
            clear ev
            refine lv_istore_n (lv' := [(3, .int v3_12), (0, .ref a0), (1, .int v1), (2, .int v2), (4, .int v4)]) hx hb dX9_under_71 rfl hl (by decide) rfl (fun ls hl => ?_)
            obtain ⟨v4_13, ev⟩ : ∃ y : Int32, y = (v4 + 1) := ⟨_, rfl⟩
            replace hm := rc_lt_at hm ev
            refine lv_iinc (v := v4_13) (lv' := [(4, .int v4_13), (3, .int v3_12), (0, .ref a0), (1, .int v1), (2, .int v2)]) hx hb dX9_under_72 hl (k := 4) rfl (by rw [ev]; rfl) (by decide) rfl (fun ls hl => ?_)
            clear ev
            refine lv_goto (tgt := 5) hx hb dX9_under_75 (by decide) ?_
            exact ih v3_12 v4_13 σ_1 _ _ _ hm hW hS (lv_sub hl [2, 3, 4, 1, 0] rfl)
        · replace hm := rc_f hm c_16
          refine lv_goto (tgt := 72) hx hb dX9_under_27 (by decide) ?_
          obtain ⟨v4_15, ev⟩ : ∃ y : Int32, y = (v4 + 1) := ⟨_, rfl⟩
          replace hm := rc_lt_at hm ev
          refine lv_iinc (v := v4_15) (lv' := [(4, .int v4_15), (0, .ref a0), (1, .int v1), (2, .int v2), (3, .int v3)]) hx hb dX9_under_72 hl (k := 4) rfl (by rw [ev]; rfl) (by decide) rfl (fun ls hl => ?_)
          clear ev
          refine lv_goto (tgt := 5) hx hb dX9_under_75 (by decide) ?_
          exact ih v3 v4_15 σ_1 _ _ _ hm hW hS (lv_sub hl [1, 2, 3, 4, 0] rfl)
  unfold f_X9_under at hm
  refine lv_iconst (v := 0) hx hb dX9_under_0 (by decide) ?_
  refine lv_istore_n (lv' := [(3, .int (0 : Int32)), (0, .ref a0), (1, .int u1), (2, .int u2)]) hx hb dX9_under_1 rfl hl (by decide) rfl (fun ls hl => ?_)
  refine lv_iconst (v := 0) hx hb dX9_under_2 (by decide) ?_
  refine lv_istore (lv' := [(4, .int (0 : Int32)), (3, .int (0 : Int32)), (0, .ref a0), (1, .int u1), (2, .int u2)]) hx hb dX9_under_3 hl (by decide) rfl (fun ls hl => ?_)
  refine lp_5 u1 u2 _ (fun v3_18 v4_19 σ_20 H locs ls hm hW hS hl => ?_) rc_fu (0 : Int32) (0 : Int32) σ _ _ _ hm hW hS (lv_sub hl [2, 3, 4, 1, 0] rfl)
  refine lv_iload_n hx hb dX9_under_78 rfl (lv_at hl 0 rfl) ?_
  exact rc_eiret hx hb hr hlocks hW hS (Nat.le_of_ble_eq_true rfl) (Nat.le_of_ble_eq_true rfl) hm dX9_under_79
