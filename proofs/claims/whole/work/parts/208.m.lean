def f_X9_wouldLose (rf : rc_F) (a0 : Nat) (u1 : Int32) (σ : rc_S) : Option (Int32 × rc_S) :=
  rc_bd (f_X9_wouldCatch rf a0 u1 σ) fun w_1 σ_1 =>
  if (σ_1 a0 0) ≤ 0 then
    some ((((10 : Int32) * u1) - w_1), σ_1)
  else
    some ((0 : Int32), σ_1)
def f_X9_vintage_38 (rf : rc_F) (a0 : Nat) (v1 : Int32) (K : Int32 → Int32 → rc_S → Option (Int32 × rc_S)) : Nat → Int32 → Int32 → rc_S → Option (Int32 × rc_S)
  | 0, _, _, _ => none
  | n + 1, v2, v3, σ =>
    if (σ (rf a0 1) 0) ≤ v3 then
      K v2 v3 σ
    else
      rc_bd (f_X9_of rf a0 v3 (3 : Int32) σ) fun w_3 σ_3 =>
      if w_3 = v1 then
        rc_bd (f_X9_of rf a0 v3 (1 : Int32) σ_3) fun w_6 σ_6 =>
        rc_lt (v2 + w_6) fun v2_7 =>
        rc_lt (v3 + 1) fun v3_8 =>
        f_X9_vintage_38 rf a0 v1 K n v2_7 v3_8 σ_6
      else
        rc_lt (v2 + (0 : Int32)) fun v2_4 =>
        rc_lt (v3 + 1) fun v3_5 =>
        f_X9_vintage_38 rf a0 v1 K n v2_4 v3_5 σ_3
def f_X9_vintage (rf : rc_F) (a0 : Nat) (u1 : Int32) (σ : rc_S) : Option (Int32 × rc_S) :=
  rc_bd (f_X9_in rf u1 (0 : Int32) ((σ (rf a0 1) 4) - (1 : Int32)) σ) fun w_1 σ_1 =>
  if w_1 = 0 then
    rc_lt (rc_up σ_1 a0 0 (1 : Int32)) fun σ_2 =>
    if (σ_2 a0 0) ≤ 0 then
      f_X9_vintage_38 rf a0 u1 (fun v2_11 v3_12 σ_13 =>
        some (v2_11, σ_13)
      ) rc_fu (0 : Int32) (0 : Int32) σ_2
    else
      some ((0 : Int32), σ_2)
  else
    rc_lt (rc_up σ_1 a0 0 (0 : Int32)) fun σ_15 =>
    if (σ_15 a0 0) ≤ 0 then
      f_X9_vintage_38 rf a0 u1 (fun v2_16 v3_17 σ_18 =>
        some (v2_16, σ_18)
      ) rc_fu (0 : Int32) (0 : Int32) σ_15
    else
      some ((0 : Int32), σ_15)
def f_X9_stormOf (rf : rc_F) (a0 : Nat) (u1 : Int32) (u2 : Int32) (σ : rc_S) : Option (Int32 × rc_S) :=
  if u1 < 0 then
    rc_lt (rc_up σ a0 0 (1 : Int32)) fun σ_1 =>
    if (σ_1 a0 0) ≤ 0 then
      rc_ck (rc_in (((71 : Int32) + ((3 : Int32) * (u1 - u1 / (12 : Int32) * (12 : Int32)))) + u2) 107) <|
      some ((σ_1 (rf a0 1) (((71 : Int32) + ((3 : Int32) * (u1 - u1 / (12 : Int32) * (12 : Int32)))) + u2).toNatClampNeg), σ_1)
    else
      some ((0 : Int32), σ_1)
  else
    if (σ (rf a0 1) 4) ≤ u1 then
      rc_lt (rc_up σ a0 0 (1 : Int32)) fun σ_4 =>
      if (σ_4 a0 0) ≤ 0 then
        rc_ck (rc_in (((71 : Int32) + ((3 : Int32) * (u1 - u1 / (12 : Int32) * (12 : Int32)))) + u2) 107) <|
        some ((σ_4 (rf a0 1) (((71 : Int32) + ((3 : Int32) * (u1 - u1 / (12 : Int32) * (12 : Int32)))) + u2).toNatClampNeg), σ_4)
      else
        some ((0 : Int32), σ_4)
    else
      if ((σ (rf a0 1) 4) - (12 : Int32)) ≤ u1 then
        rc_bd (f_X9_in rf u2 (0 : Int32) (2 : Int32) σ) fun w_7 σ_7 =>
        if w_7 = 0 then
          rc_lt (rc_up σ_7 a0 0 (2 : Int32)) fun σ_8 =>
          if (σ_8 a0 0) ≤ 0 then
            rc_ck (rc_in (((71 : Int32) + ((3 : Int32) * (u1 - u1 / (12 : Int32) * (12 : Int32)))) + u2) 107) <|
            some ((σ_8 (rf a0 1) (((71 : Int32) + ((3 : Int32) * (u1 - u1 / (12 : Int32) * (12 : Int32)))) + u2).toNatClampNeg), σ_8)
          else
            some ((0 : Int32), σ_8)
        else
          rc_lt (rc_up σ_7 a0 0 (0 : Int32)) fun σ_11 =>
          if (σ_11 a0 0) ≤ 0 then
            rc_ck (rc_in (((71 : Int32) + ((3 : Int32) * (u1 - u1 / (12 : Int32) * (12 : Int32)))) + u2) 107) <|
            some ((σ_11 (rf a0 1) (((71 : Int32) + ((3 : Int32) * (u1 - u1 / (12 : Int32) * (12 : Int32)))) + u2).toNatClampNeg), σ_11)
          else
            some ((0 : Int32), σ_11)
      else
        rc_lt (rc_up σ a0 0 (1 : Int32)) fun σ_15 =>
        if (σ_15 a0 0) ≤ 0 then
          rc_ck (rc_in (((71 : Int32) + ((3 : Int32) * (u1 - u1 / (12 : Int32) * (12 : Int32)))) + u2) 107) <|
          some ((σ_15 (rf a0 1) (((71 : Int32) + ((3 : Int32) * (u1 - u1 / (12 : Int32) * (12 : Int32)))) + u2).toNatClampNeg), σ_15)
        else
          some ((0 : Int32), σ_15)
def f_X9_canPour (rf : rc_F) (a0 : Nat) (u1 : Int32) (u2 : Int32) (σ : rc_S) : Option (Int32 × rc_S) :=
  rc_bd (f_X9_isBarrel rf a0 u1 σ) fun w_1 σ_1 =>
  if w_1 = 0 then
    rc_lt (rc_up σ_1 a0 0 (1 : Int32)) fun σ_2 =>
    if 0 < (σ_2 a0 0) then
      some ((0 : Int32), σ_2)
    else
      if u1 = u2 then
        some ((0 : Int32), σ_2)
      else
        rc_bd (f_X9_of rf a0 u1 (1 : Int32) σ_2) fun w_3 σ_3 =>
        if w_3 = 0 then
          some ((0 : Int32), σ_3)
        else
          rc_bd (f_X9_of rf a0 u2 (1 : Int32) σ_3) fun w_4 σ_4 =>
          if w_4 = 0 then
            some ((1 : Int32), σ_4)
          else
            rc_bd (f_X9_of rf a0 u2 (3 : Int32) σ_4) fun w_5 σ_5 =>
            rc_bd (f_X9_of rf a0 u1 (3 : Int32) σ_5) fun w_6 σ_6 =>
            if w_5 = w_6 then
              rc_bd (f_X9_of rf a0 u2 (1 : Int32) σ_6) fun w_7 σ_7 =>
              if (20 : Int32) ≤ w_7 then
                some ((0 : Int32), σ_7)
              else
                some ((1 : Int32), σ_7)
            else
              some ((0 : Int32), σ_6)
  else
    rc_bd (f_X9_isBarrel rf a0 u2 σ_1) fun w_14 σ_14 =>
    if w_14 = 0 then
      rc_lt (rc_up σ_14 a0 0 (1 : Int32)) fun σ_15 =>
      if 0 < (σ_15 a0 0) then
        some ((0 : Int32), σ_15)
      else
        if u1 = u2 then
          some ((0 : Int32), σ_15)
        else
          rc_bd (f_X9_of rf a0 u1 (1 : Int32) σ_15) fun w_16 σ_16 =>
          if w_16 = 0 then
            some ((0 : Int32), σ_16)
          else
            rc_bd (f_X9_of rf a0 u2 (1 : Int32) σ_16) fun w_17 σ_17 =>
            if w_17 = 0 then
              some ((1 : Int32), σ_17)
            else
              rc_bd (f_X9_of rf a0 u2 (3 : Int32) σ_17) fun w_18 σ_18 =>
              rc_bd (f_X9_of rf a0 u1 (3 : Int32) σ_18) fun w_19 σ_19 =>
              if w_18 = w_19 then
                rc_bd (f_X9_of rf a0 u2 (1 : Int32) σ_19) fun w_20 σ_20 =>
                if (20 : Int32) ≤ w_20 then
                  some ((0 : Int32), σ_20)
                else
                  some ((1 : Int32), σ_20)
              else
                some ((0 : Int32), σ_19)
    else
      rc_lt (rc_up σ_14 a0 0 (0 : Int32)) fun σ_27 =>
      if 0 < (σ_27 a0 0) then
        some ((0 : Int32), σ_27)
      else
        if u1 = u2 then
          some ((0 : Int32), σ_27)
        else
          rc_bd (f_X9_of rf a0 u1 (1 : Int32) σ_27) fun w_28 σ_28 =>
          if w_28 = 0 then
            some ((0 : Int32), σ_28)
          else
            rc_bd (f_X9_of rf a0 u2 (1 : Int32) σ_28) fun w_29 σ_29 =>
            if w_29 = 0 then
              some ((1 : Int32), σ_29)
            else
              rc_bd (f_X9_of rf a0 u2 (3 : Int32) σ_29) fun w_30 σ_30 =>
              rc_bd (f_X9_of rf a0 u1 (3 : Int32) σ_30) fun w_31 σ_31 =>
              if w_30 = w_31 then
                rc_bd (f_X9_of rf a0 u2 (1 : Int32) σ_31) fun w_32 σ_32 =>
                if (20 : Int32) ≤ w_32 then
                  some ((0 : Int32), σ_32)
                else
                  some ((1 : Int32), σ_32)
              else
                some ((0 : Int32), σ_31)
def f_X9_measureOf (rf : rc_F) (a0 : Nat) (u1 : Int32) (u2 : Int32) (σ : rc_S) : Option (Int32 × rc_S) :=
  if u2 = 0 then
    rc_bd (f_X9_of rf a0 u1 (1 : Int32) σ) fun w_6 σ_6 =>
    some (w_6, σ_6)
  else
    if u2 = (1 : Int32) then
      rc_bd (f_X9_noteOf rf a0 u1 (0 : Int32) σ) fun w_4 σ_4 =>
      some (w_4, σ_4)
    else
      if u2 = (2 : Int32) then
        rc_bd (f_X9_ageOf rf a0 u1 σ) fun w_2 σ_2 =>
        some (w_2, σ_2)
      else
        rc_bd (f_X9_part rf a0 u1 σ) fun w_1 σ_1 =>
        some (w_1, σ_1)
def f_X9_ranked_53 (rf : rc_F) (a0 : Nat) (v1 : Int32) (v2 : Int32) (v3 : Int32) (v5 : Int32) (K : Int32 → Int32 → rc_S → Option (Int32 × rc_S)) : Nat → Int32 → Int32 → rc_S → Option (Int32 × rc_S)
  | 0, _, _, _ => none
  | n + 1, v4, v6, σ =>
    if (σ (rf a0 1) 0) ≤ v6 then
      K v4 v6 σ
    else
      rc_bd (f_X9_measureOf rf a0 v6 v1 σ) fun w_4 σ_4 =>
      if v5 < w_4 then
        rc_lt (v4 + (1 : Int32)) fun v4_5 =>
        rc_lt (v6 + 1) fun v6_6 =>
        f_X9_ranked_53 rf a0 v1 v2 v3 v5 K n v4_5 v6_6 σ_4
      else
        rc_bd (f_X9_measureOf rf a0 v6 v1 σ_4) fun w_7 σ_7 =>
        if w_7 = v5 then
          if v3 ≤ v6 then
            rc_lt (v4 + (0 : Int32)) fun v4_10 =>
            rc_lt (v6 + 1) fun v6_11 =>
            f_X9_ranked_53 rf a0 v1 v2 v3 v5 K n v4_10 v6_11 σ_7
          else
            rc_lt (v4 + (1 : Int32)) fun v4_12 =>
            rc_lt (v6 + 1) fun v6_13 =>
            f_X9_ranked_53 rf a0 v1 v2 v3 v5 K n v4_12 v6_13 σ_7
        else
          rc_lt (v4 + (0 : Int32)) fun v4_8 =>
          rc_lt (v6 + 1) fun v6_9 =>
          f_X9_ranked_53 rf a0 v1 v2 v3 v5 K n v4_8 v6_9 σ_7
def f_X9_ranked_29 (rf : rc_F) (a0 : Nat) (v1 : Int32) (v2 : Int32) (K : Int32 → rc_S → Option (Int32 × rc_S)) : Nat → Int32 → rc_S → Option (Int32 × rc_S)
  | 0, _, _ => none
  | n + 1, v3, σ =>
    if (σ (rf a0 1) 0) ≤ v3 then
      K v3 σ
    else
      rc_bd (f_X9_measureOf rf a0 v3 v1 σ) fun w_3 σ_3 =>
      f_X9_ranked_53 rf a0 v1 v2 v3 w_3 (fun v4_18 v6_19 σ_20 =>
        if v4_18 = v2 then
          some (v3, σ_20)
        else
          rc_lt (v3 + 1) fun v3_21 =>
          f_X9_ranked_29 rf a0 v1 v2 K n v3_21 σ_20
      ) rc_fu (0 : Int32) (0 : Int32) σ_3
def f_X9_ranked (rf : rc_F) (a0 : Nat) (u1 : Int32) (u2 : Int32) (σ : rc_S) : Option (Int32 × rc_S) :=
  rc_bd (f_X9_in rf u1 (0 : Int32) (3 : Int32) σ) fun w_1 σ_1 =>
  if w_1 = 0 then
    rc_lt (rc_up σ_1 a0 0 (1 : Int32)) fun σ_2 =>
    if (σ_2 a0 0) ≤ 0 then
      f_X9_ranked_29 rf a0 u1 u2 (fun v3_24 σ_25 =>
        rc_bd (f_X9_fails rf a0 (2 : Int32) σ_25) fun w_26 σ_26 =>
        some (w_26, σ_26)
      ) rc_fu (0 : Int32) σ_2
    else
      some ((0 : Int32), σ_2)
  else
    rc_lt (rc_up σ_1 a0 0 (0 : Int32)) fun σ_28 =>
    if (σ_28 a0 0) ≤ 0 then
      f_X9_ranked_29 rf a0 u1 u2 (fun v3_29 σ_30 =>
        rc_bd (f_X9_fails rf a0 (2 : Int32) σ_30) fun w_31 σ_31 =>
        some (w_31, σ_31)
      ) rc_fu (0 : Int32) σ_28
    else
      some ((0 : Int32), σ_28)
def f_X9_allLitres_4 (rf : rc_F) (a0 : Nat) (K : Int32 → Int32 → rc_S → Option (Int32 × rc_S)) : Nat → Int32 → Int32 → rc_S → Option (Int32 × rc_S)
  | 0, _, _, _ => none
  | n + 1, v1, v2, σ =>
    if (σ (rf a0 1) 0) ≤ v2 then
      K v1 v2 σ
    else
      rc_bd (f_X9_of rf a0 v2 (1 : Int32) σ) fun w_1 σ_1 =>
      rc_lt (v1 + w_1) fun v1_2 =>
      rc_lt (v2 + 1) fun v2_3 =>
      f_X9_allLitres_4 rf a0 K n v1_2 v2_3 σ_1
def f_X9_allLitres (rf : rc_F) (a0 : Nat) (σ : rc_S) : Option (Int32 × rc_S) :=
  f_X9_allLitres_4 rf a0 (fun v1_5 v2_6 σ_7 =>
    some (v1_5, σ_7)
  ) rc_fu (0 : Int32) (0 : Int32) σ
def f_X9_isEven (rf : rc_F) (a0 : Nat) (σ : rc_S) : Option (Int32 × rc_S) :=
  rc_lt (rc_up σ a0 0 (0 : Int32)) fun σ_1 =>
  rc_bd (f_X9_allLitres rf a0 σ_1) fun w_2 σ_2 =>
  if ((σ_1 (rf a0 1) 5) + (σ_1 (rf a0 1) 6)) = ((w_2 + (σ_2 (rf a0 1) 8)) + (σ_2 (rf a0 1) 9)) then
    some ((1 : Int32), σ_2)
  else
    some ((0 : Int32), σ_2)
def f_X9_append (rf : rc_F) (a0 : Nat) (u1 : Int32) (σ : rc_S) : Option (Int32 × rc_S) :=
  if (σ a0 10) = (60 : Int32) then
    rc_lt (rc_up σ a0 0 (1 : Int32)) fun σ_6 =>
    if (σ_6 a0 0) ≤ 0 then
      rc_ck (rc_in (σ_6 a0 10) 60) <|
      rc_lt (rc_up σ_6 (rf a0 7) (σ_6 a0 10).toNatClampNeg u1) fun σ_8 =>
      rc_lt (rc_up σ_8 a0 10 ((σ_8 a0 10) + (1 : Int32))) fun σ_9 =>
      some ((σ_9 a0 10), σ_9)
    else
      some ((0 : Int32), σ_6)
  else
    rc_lt (rc_up σ a0 0 (0 : Int32)) fun σ_1 =>
    if (σ_1 a0 0) ≤ 0 then
      rc_ck (rc_in (σ_1 a0 10) 60) <|
      rc_lt (rc_up σ_1 (rf a0 7) (σ_1 a0 10).toNatClampNeg u1) fun σ_3 =>
      rc_lt (rc_up σ_3 a0 10 ((σ_3 a0 10) + (1 : Int32))) fun σ_4 =>
      some ((σ_4 a0 10), σ_4)
    else
      some ((0 : Int32), σ_1)
def f_X9_here (rf : rc_F) (a0 : Nat) (σ : rc_S) : Option (Int32 × rc_S) :=
  if (σ a0 19) ≤ (σ a0 18) then
    some ((-1 : Int32), σ)
  else
    rc_ck (rc_in (σ a0 18) 60) <|
    some ((σ (rf a0 7) (σ a0 18).toNatClampNeg), σ)
set_option maxHeartbeats 4000000 in
set_option maxRecDepth 100000 in
theorem k_X9_wouldLose (l : Launch) {Y : rc_Y} {sh : Nat → Nat} {rf : rc_F} (hT : rc_T Y sh rf) (a0 : Nat) (u1 : Int32) (h0 : sh a0 = 10) (sz : Nat) (σ σ' : rc_S) (r : Int32) (hm : f_X9_wouldLose rf a0 u1 σ = some (r, σ')) : Met l yX9_wouldLose (Cond.code yX9_wouldLose cX9_wouldLose 3 (some .int) :: rc_big) ({ frames := 3, cells := 0, slots := 0, locals := 67 } : Room) (rc_P Y sh rf σ sz [.ref a0, .int u1]) (va_Qi (fun (r' : Int32) (_ : Unit) => r' = r) (fun _ t => rc_W Y sh rf σ' t.heap) (rc_A sh sz)) 0 0 (rc_A sh sz) := by
  refine Met.ofW (cc := cX9_wouldLose) (maxL := 3) (ret := (some .int)) (by decide +kernel) rfl ?_
  intro p e s m args below meth c s₁ B hml hv
  obtain ⟨rfl, hsz, hW, hK, hE⟩ := hv
  have hx := B.exec
  have hb := B.bytes
  have hr := B.returns
  have hts : ∀ w ∈ rc_big, w.before _ s = true := fun w h => atoms_spec (ws := Cond.code yX9_wouldLose cX9_wouldLose 3 (some .int) :: rc_big) B.pre w (List.mem_cons_of_mem _ h)
  have hown : s.vm.findClass RX9 = some m.cls := findClass_of_methodNamed B.named
  have hlocks := B.notSynchronized
  clear B
  subst hsz
  have hS : va_S (rc_A sh s.heap.size) s.heap s.heap [] := va_S.rf
  have hl := lv_entry ([.ref a0, .int u1]) (n := 3) (Nat.le_of_ble_eq_true rfl)
  rw [lg_entry_eq]
  generalize (lg_sl ([.ref a0, .int u1]) ++ List.replicate (3 - (lg_sl ([.ref a0, .int u1])).length) Slot.unset).toArray = ls at hl ⊢
  have hl : lv_has ls 3 [(0, .ref a0), (1, .int u1)] := hl
  unfold f_X9_wouldLose at hm
  refine lv_aload_n hx hb dX9_wouldLose_0 rfl (lv_at hl 0 rfl) ?_
  refine lv_iload_n hx hb dX9_wouldLose_1 rfl (lv_at hl 1 rfl) ?_
  obtain ⟨w_1, σ_1, hc_1, hm0⟩ := rc_bd_inv hm
  clear hm
  refine rc_ci hS (va_runV (As := [.int u1]) (rest := []) ⟨hx, hb, hml, hown, hts⟩ (k_X9_wouldCatch l hT a0 u1 h0 s.heap.size _ _ _ hc_1) (cwV 1 hts (rc_gV tw_8_120 tw_8_113 tw_8_114 tw_1_14 tw_8_115) rfl rfl rfl (by decide +kernel) ⟨Nat.le_of_ble_eq_true rfl, Nat.le_of_ble_eq_true rfl⟩) (rc_preV hT hW hK hE hS h0 (by decide) rfl (q := (RX9, TX9, 22)) rfl [.int u1]) rfl rfl hl.1 rfl (lv_room (Nat.le_of_ble_eq_true rfl)) dX9_wouldLose_2 ⟨Nat.le_of_ble_eq_true rfl, Nat.le_of_ble_eq_true rfl⟩) (fun H locs hW hS => ?_)
  have hm := hm0
  clear hm0 hc_1
  refine lv_istore_n (lv' := [(2, .int w_1), (0, .ref a0), (1, .int u1)]) hx hb dX9_wouldLose_5 rfl hl (by decide) rfl (fun ls hl => ?_)
  refine lv_aload_n hx hb dX9_wouldLose_6 rfl (lv_at hl 1 rfl) ?_
  refine rg_10_0 hx hb hts hown hK hW h0 tw_7_69 dX9_wouldLose_7 ?_
  refine lv_if_le (tgt := 17) hx hb dX9_wouldLose_10 (by decide) (fun c_2 => ?_) (fun c_2 => ?_)
  · replace hm := rc_t hm c_2
    refine lv_bipush (v := 10) hx hb dX9_wouldLose_17 (by decide) ?_
    refine lv_iload_n hx hb dX9_wouldLose_19 rfl (lv_at hl 2 rfl) ?_
    refine lv_imul hx hb dX9_wouldLose_20 ?_
    refine lv_iload_n hx hb dX9_wouldLose_21 rfl (lv_at hl 0 rfl) ?_
    refine lv_isub hx hb dX9_wouldLose_22 ?_
    exact rc_eiret hx hb hr hlocks hW hS (Nat.le_of_ble_eq_true rfl) (Nat.le_of_ble_eq_true rfl) hm dX9_wouldLose_23
  · replace hm := rc_f hm c_2
    refine lv_iconst (v := 0) hx hb dX9_wouldLose_13 (by decide) ?_
    refine lv_goto (tgt := 23) hx hb dX9_wouldLose_14 (by decide) ?_
    exact rc_eiret hx hb hr hlocks hW hS (Nat.le_of_ble_eq_true rfl) (Nat.le_of_ble_eq_true rfl) hm dX9_wouldLose_23
set_option maxHeartbeats 4000000 in
set_option maxRecDepth 100000 in
theorem k_X9_vintage (l : Launch) {Y : rc_Y} {sh : Nat → Nat} {rf : rc_F} (hT : rc_T Y sh rf) (a0 : Nat) (u1 : Int32) (h0 : sh a0 = 10) (sz : Nat) (σ σ' : rc_S) (r : Int32) (hm : f_X9_vintage rf a0 u1 σ = some (r, σ')) : Met l yX9_vintage (Cond.code yX9_vintage cX9_vintage 4 (some .int) :: rc_big) ({ frames := 1, cells := 0, slots := 0, locals := 22 } : Room) (rc_P Y sh rf σ sz [.ref a0, .int u1]) (va_Qi (fun (r' : Int32) (_ : Unit) => r' = r) (fun _ t => rc_W Y sh rf σ' t.heap) (rc_A sh sz)) 0 0 (rc_A sh sz) := by
  refine Met.ofW (cc := cX9_vintage) (maxL := 4) (ret := (some .int)) (by decide +kernel) rfl ?_
  intro p e s m args below meth c s₁ B hml hv
  obtain ⟨rfl, hsz, hW, hK, hE⟩ := hv
  have hx := B.exec
  have hb := B.bytes
  have hr := B.returns
  have hts : ∀ w ∈ rc_big, w.before _ s = true := fun w h => atoms_spec (ws := Cond.code yX9_vintage cX9_vintage 4 (some .int) :: rc_big) B.pre w (List.mem_cons_of_mem _ h)
  have hown : s.vm.findClass RX9 = some m.cls := findClass_of_methodNamed B.named
  have hlocks := B.notSynchronized
  clear B
  subst hsz
  have hS : va_S (rc_A sh s.heap.size) s.heap s.heap [] := va_S.rf
  have hl := lv_entry ([.ref a0, .int u1]) (n := 4) (Nat.le_of_ble_eq_true rfl)
  rw [lg_entry_eq]
  generalize (lg_sl ([.ref a0, .int u1]) ++ List.replicate (4 - (lg_sl ([.ref a0, .int u1])).length) Slot.unset).toArray = ls at hl ⊢
  have hl : lv_has ls 4 [(0, .ref a0), (1, .int u1)] := hl
  have lp_38 : ∀ (v1 : Int32) (K : Int32 → Int32 → rc_S → Option (Int32 × rc_S)) (hKK : ∀ (v2 v3 : Int32) (σ : rc_S) (H : Heap) (locs : List Loc) (ls : Array Slot), K v2 v3 σ = some (r, σ') → rc_W Y sh rf σ H → va_S (rc_A sh s.heap.size) s.heap H locs → lv_has ls 4 [(2, .int v2)] → W p l e (headSpec (Cond.code yX9_vintage cX9_vintage 4 (some .int) :: rc_big) ({ frames := 1, cells := 0, slots := 0, locals := 22 } : Room)).room s m (([.ref a0, .int u1] : List Value).toArray) below meth c H locs (0 + 0) (0 + 0) (MQ below (va_Qi (fun (r' : Int32) (_ : Unit) => r' = r) (fun _ t => rc_W Y sh rf σ' t.heap) (rc_A sh s.heap.size)) ([.ref a0, .int u1] : List Value).toArray s 0 0 (rc_A sh s.heap.size)) (F0 m 77 ls [])) (n : Nat) (v2 v3 : Int32) (σ : rc_S) (H : Heap) (locs : List Loc) (ls : Array Slot), f_X9_vintage_38 rf a0 v1 K n v2 v3 σ = some (r, σ') → rc_W Y sh rf σ H → va_S (rc_A sh s.heap.size) s.heap H locs → lv_has ls 4 [(0, .ref a0), (1, .int v1), (2, .int v2), (3, .int v3)] → W p l e (headSpec (Cond.code yX9_vintage cX9_vintage 4 (some .int) :: rc_big) ({ frames := 1, cells := 0, slots := 0, locals := 22 } : Room)).room s m (([.ref a0, .int u1] : List Value).toArray) below meth c H locs (0 + 0) (0 + 0) (MQ below (va_Qi (fun (r' : Int32) (_ : Unit) => r' = r) (fun _ t => rc_W Y sh rf σ' t.heap) (rc_A sh s.heap.size)) ([.ref a0, .int u1] : List Value).toArray s 0 0 (rc_A sh s.heap.size)) (F0 m 38 ls []) := by
    intro v1 K hKK n
    induction n with
    | zero =>
      intro v2 v3 σ H locs ls hm
      rw [f_X9_vintage_38] at hm
      cases hm
    | succ n ih =>
      intro v2 v3 σ H locs ls hm hW hS hl
      rw [f_X9_vintage_38] at hm
      refine lv_iload_n hx hb dX9_vintage_38 rfl (lv_at hl 3 rfl) ?_
      refine lv_aload_n hx hb dX9_vintage_39 rfl (lv_at hl 0 rfl) ?_
      refine rg_10_1 hx hb hts hown hK hW h0 tw_7_70 dX9_vintage_40 ?_
      refine lv_iconst (v := 0) hx hb dX9_vintage_43 (by decide) ?_
      refine rc_ialdj (j := 0) hx hb hK hW (rc_t_10_1 hT h0) (by decide) rfl (rc_inD (by decide)) (by decide) dX9_vintage_44 ?_
      refine lv_icmp_ge (tgt := 77) hx hb dX9_vintage_45 (by decide) (fun c_10 => ?_) (fun c_10 => ?_)
      · replace hm := rc_t hm c_10
        exact hKK v2 v3 σ _ _ _ hm hW hS (lv_sub hl [2] rfl)
      · replace hm := rc_f hm c_10
        refine lv_iload_n hx hb dX9_vintage_48 rfl (lv_at hl 2 rfl) ?_
        refine lv_aload_n hx hb dX9_vintage_49 rfl (lv_at hl 0 rfl) ?_
        refine lv_iload_n hx hb dX9_vintage_50 rfl (lv_at hl 3 rfl) ?_
        refine lv_iconst (v := 3) hx hb dX9_vintage_51 (by decide) ?_
        obtain ⟨w_3, σ_3, hc_3, hm0⟩ := rc_bd_inv hm
        clear hm
        refine rc_ci hS (va_runV (As := [.int v3, .int (3 : Int32)]) (rest := [.int v2]) ⟨hx, hb, hml, hown, hts⟩ (k_X9_of l hT a0 v3 (3 : Int32) h0 H.size _ _ _ hc_3) (cwV 2 hts (rc_gV tw_7_163 tw_7_165 tw_p_20 tw_1_14 tw_7_166) rfl rfl rfl (by decide +kernel) ⟨Nat.le_of_ble_eq_true rfl, Nat.le_of_ble_eq_true rfl⟩) (rc_preV hT hW hK hE hS h0 (by decide) rfl (q := (RX9, TX9, 22)) rfl [.int v3, .int (3 : Int32)]) rfl rfl hl.1 rfl (lv_room (Nat.le_of_ble_eq_true rfl)) dX9_vintage_52 ⟨Nat.le_of_ble_eq_true rfl, Nat.le_of_ble_eq_true rfl⟩) (fun H locs hW hS => ?_)
        have hm := hm0
        clear hm0 hc_3
        refine lv_iload_n hx hb dX9_vintage_55 rfl (lv_at hl 1 rfl) ?_
        refine lv_icmp_ne (tgt := 68) hx hb dX9_vintage_56 (by decide) (fun c_9 => ?_) (fun c_9 => ?_)
        · replace hm := rc_f hm c_9
          refine lv_iconst (v := 0) hx hb dX9_vintage_68 (by decide) ?_
          refine lv_iadd hx hb dX9_vintage_69 ?_
          refine lv_topi (fun v2_4 ev => ?_)
          replace hm := rc_lt_at hm ev
          clear ev
          refine lv_istore_n (lv' := [(2, .int v2_4), (0, .ref a0), (1, .int v1), (3, .int v3)]) hx hb dX9_vintage_70 rfl hl (by decide) rfl (fun ls hl => ?_)
          obtain ⟨v3_5, ev⟩ : ∃ y : Int32, y = (v3 + 1) := ⟨_, rfl⟩
          replace hm := rc_lt_at hm ev
          refine lv_iinc (v := v3_5) (lv' := [(3, .int v3_5), (2, .int v2_4), (0, .ref a0), (1, .int v1)]) hx hb dX9_vintage_71 hl (k := 3) rfl (by rw [ev]; rfl) (by decide) rfl (fun ls hl => ?_)
          clear ev
          refine lv_goto (tgt := 38) hx hb dX9_vintage_74 (by decide) ?_
          exact ih v2_4 v3_5 σ_3 _ _ _ hm hW hS (lv_sub hl [2, 3, 1, 0] rfl)
        · replace hm := rc_t hm c_9
          refine lv_aload_n hx hb dX9_vintage_59 rfl (lv_at hl 0 rfl) ?_
          refine lv_iload_n hx hb dX9_vintage_60 rfl (lv_at hl 3 rfl) ?_
          refine lv_iconst (v := 1) hx hb dX9_vintage_61 (by decide) ?_
          obtain ⟨w_6, σ_6, hc_6, hm0⟩ := rc_bd_inv hm
          clear hm
          refine rc_ci hS (va_runV (As := [.int v3, .int (1 : Int32)]) (rest := [.int v2]) ⟨hx, hb, hml, hown, hts⟩ (k_X9_of l hT a0 v3 (1 : Int32) h0 H.size _ _ _ hc_6) (cwV 2 hts (rc_gV tw_7_163 tw_7_165 tw_p_20 tw_1_14 tw_7_166) rfl rfl rfl (by decide +kernel) ⟨Nat.le_of_ble_eq_true rfl, Nat.le_of_ble_eq_true rfl⟩) (rc_preV hT hW hK hE hS h0 (by decide) rfl (q := (RX9, TX9, 22)) rfl [.int v3, .int (1 : Int32)]) rfl rfl hl.1 rfl (lv_room (Nat.le_of_ble_eq_true rfl)) dX9_vintage_62 ⟨Nat.le_of_ble_eq_true rfl, Nat.le_of_ble_eq_true rfl⟩) (fun H locs hW hS => ?_)
          have hm := hm0
          clear hm0 hc_6
          refine lv_goto (tgt := 69) hx hb dX9_vintage_65 (by decide) ?_
          refine lv_iadd hx hb dX9_vintage_69 ?_
          refine lv_topi (fun v2_7 ev => ?_)
          replace hm := rc_lt_at hm ev
          clear ev
          refine lv_istore_n (lv' := [(2, .int v2_7), (0, .ref a0), (1, .int v1), (3, .int v3)]) hx hb dX9_vintage_70 rfl hl (by decide) rfl (fun ls hl => ?_)
          obtain ⟨v3_8, ev⟩ : ∃ y : Int32, y = (v3 + 1) := ⟨_, rfl⟩
          replace hm := rc_lt_at hm ev
          refine lv_iinc (v := v3_8) (lv' := [(3, .int v3_8), (2, .int v2_7), (0, .ref a0), (1, .int v1)]) hx hb dX9_vintage_71 hl (k := 3) rfl (by rw [ev]; rfl) (by decide) rfl (fun ls hl => ?_)
          clear ev
          refine lv_goto (tgt := 38) hx hb dX9_vintage_74 (by decide) ?_
          exact ih v2_7 v3_8 σ_6 _ _ _ hm hW hS (lv_sub hl [2, 3, 1, 0] rfl)
  unfold f_X9_vintage at hm
  refine lv_aload_n hx hb dX9_vintage_0 rfl (lv_at hl 0 rfl) ?_
  refine lv_iload_n hx hb dX9_vintage_1 rfl (lv_at hl 1 rfl) ?_
  refine lv_iconst (v := 0) hx hb dX9_vintage_2 (by decide) ?_
  refine lv_aload_n hx hb dX9_vintage_3 rfl (lv_at hl 0 rfl) ?_
  refine rg_10_1 hx hb hts hown hK hW h0 tw_7_70 dX9_vintage_4 ?_
  refine lv_iconst (v := 4) hx hb dX9_vintage_7 (by decide) ?_
  refine rc_ialdj (j := 4) hx hb hK hW (rc_t_10_1 hT h0) (by decide) rfl (rc_inD (by decide)) (by decide) dX9_vintage_8 ?_
  refine lv_iconst (v := 1) hx hb dX9_vintage_9 (by decide) ?_
  refine lv_isub hx hb dX9_vintage_10 ?_
  obtain ⟨w_1, σ_1, hc_1, hm0⟩ := rc_bd_inv hm
  clear hm
  refine rc_ci hS (va_runS (As := [.int u1, .int (0 : Int32), .int ((σ (rf a0 1) 4) - (1 : Int32))]) (rest := [.ref a0]) ⟨hx, hb, hml, hown, hts⟩ (k_X9_in l hT u1 (0 : Int32) ((σ (rf a0 1) 4) - (1 : Int32))  s.heap.size _ _ _ hc_1) (va_cwS 3 hts (rc_gS tw_7_152 tw_7_153 tw_1_14 tw_7_154) rfl rfl rfl (by decide +kernel) ⟨Nat.le_of_ble_eq_true rfl, Nat.le_of_ble_eq_true rfl⟩) (rc_preS hT hW hK hE hS [.int u1, .int (0 : Int32), .int ((σ (rf a0 1) 4) - (1 : Int32))]) rfl rfl hl.1 rfl (lv_room (Nat.le_of_ble_eq_true rfl)) dX9_vintage_11 ⟨Nat.le_of_ble_eq_true rfl, Nat.le_of_ble_eq_true rfl⟩) (fun H locs hW hS => ?_)
  have hm := hm0
  clear hm0 hc_1
  refine lv_if_eq (tgt := 21) hx hb dX9_vintage_14 (by decide) (fun c_20 => ?_) (fun c_20 => ?_)
  · replace hm := rc_t hm c_20
    refine lv_iconst (v := 1) hx hb dX9_vintage_21 (by decide) ?_
    refine rp_10_0 hx hb hts hown hK hW hS h0 tw_7_69 dX9_vintage_22 (fun σ_2 H locs eσ hW hS => ?_)
    replace hm := rc_lt_at hm eσ
    clear eσ
    refine lv_aload_n hx hb dX9_vintage_25 rfl (lv_at hl 0 rfl) ?_
    refine rg_10_0 hx hb hts hown hK hW h0 tw_7_69 dX9_vintage_26 ?_
    refine lv_if_le (tgt := 34) hx hb dX9_vintage_29 (by decide) (fun c_14 => ?_) (fun c_14 => ?_)
    · replace hm := rc_t hm c_14
      refine lv_iconst (v := 0) hx hb dX9_vintage_34 (by decide) ?_
      refine lv_istore_n (lv' := [(2, .int (0 : Int32)), (0, .ref a0), (1, .int u1)]) hx hb dX9_vintage_35 rfl hl (by decide) rfl (fun ls hl => ?_)
      refine lv_iconst (v := 0) hx hb dX9_vintage_36 (by decide) ?_
      refine lv_istore_n (lv' := [(3, .int (0 : Int32)), (2, .int (0 : Int32)), (0, .ref a0), (1, .int u1)]) hx hb dX9_vintage_37 rfl hl (by decide) rfl (fun ls hl => ?_)
      refine lp_38 u1 _ (fun v2_11 v3_12 σ_13 H locs ls hm hW hS hl => ?_) rc_fu (0 : Int32) (0 : Int32) σ_2 _ _ _ hm hW hS (lv_sub hl [2, 3, 1, 0] rfl)
      refine lv_iload_n hx hb dX9_vintage_77 rfl (lv_at hl 0 rfl) ?_
      exact rc_eiret hx hb hr hlocks hW hS (Nat.le_of_ble_eq_true rfl) (Nat.le_of_ble_eq_true rfl) hm dX9_vintage_78
    · replace hm := rc_f hm c_14
      refine lv_iconst (v := 0) hx hb dX9_vintage_32 (by decide) ?_
      exact rc_eiret hx hb hr hlocks hW hS (Nat.le_of_ble_eq_true rfl) (Nat.le_of_ble_eq_true rfl) hm dX9_vintage_33
  · replace hm := rc_f hm c_20
    refine lv_iconst (v := 0) hx hb dX9_vintage_17 (by decide) ?_
    refine lv_goto (tgt := 22) hx hb dX9_vintage_18 (by decide) ?_
    refine rp_10_0 hx hb hts hown hK hW hS h0 tw_7_69 dX9_vintage_22 (fun σ_15 H locs eσ hW hS => ?_)
    replace hm := rc_lt_at hm eσ
    clear eσ
    refine lv_aload_n hx hb dX9_vintage_25 rfl (lv_at hl 0 rfl) ?_
    refine rg_10_0 hx hb hts hown hK hW h0 tw_7_69 dX9_vintage_26 ?_
    refine lv_if_le (tgt := 34) hx hb dX9_vintage_29 (by decide) (fun c_19 => ?_) (fun c_19 => ?_)
    · replace hm := rc_t hm c_19
      refine lv_iconst (v := 0) hx hb dX9_vintage_34 (by decide) ?_
      refine lv_istore_n (lv' := [(2, .int (0 : Int32)), (0, .ref a0), (1, .int u1)]) hx hb dX9_vintage_35 rfl hl (by decide) rfl (fun ls hl => ?_)
      refine lv_iconst (v := 0) hx hb dX9_vintage_36 (by decide) ?_
      refine lv_istore_n (lv' := [(3, .int (0 : Int32)), (2, .int (0 : Int32)), (0, .ref a0), (1, .int u1)]) hx hb dX9_vintage_37 rfl hl (by decide) rfl (fun ls hl => ?_)
      refine lp_38 u1 _ (fun v2_16 v3_17 σ_18 H locs ls hm hW hS hl => ?_) rc_fu (0 : Int32) (0 : Int32) σ_15 _ _ _ hm hW hS (lv_sub hl [2, 3, 1, 0] rfl)
      refine lv_iload_n hx hb dX9_vintage_77 rfl (lv_at hl 0 rfl) ?_
      exact rc_eiret hx hb hr hlocks hW hS (Nat.le_of_ble_eq_true rfl) (Nat.le_of_ble_eq_true rfl) hm dX9_vintage_78
    · replace hm := rc_f hm c_19
      refine lv_iconst (v := 0) hx hb dX9_vintage_32 (by decide) ?_
      exact rc_eiret hx hb hr hlocks hW hS (Nat.le_of_ble_eq_true rfl) (Nat.le_of_ble_eq_true rfl) hm dX9_vintage_33
set_option maxHeartbeats 4000000 in
set_option maxRecDepth 100000 in
theorem k_X9_stormOf (l : Launch) {Y : rc_Y} {sh : Nat → Nat} {rf : rc_F} (hT : rc_T Y sh rf) (a0 : Nat) (u1 : Int32) (u2 : Int32) (h0 : sh a0 = 10) (sz : Nat) (σ σ' : rc_S) (r : Int32) (hm : f_X9_stormOf rf a0 u1 u2 σ = some (r, σ')) : Met l yX9_stormOf (Cond.code yX9_stormOf cX9_stormOf 3 (some .int) :: rc_big) ({ frames := 1, cells := 0, slots := 0, locals := 22 } : Room) (rc_P Y sh rf σ sz [.ref a0, .int u1, .int u2]) (va_Qi (fun (r' : Int32) (_ : Unit) => r' = r) (fun _ t => rc_W Y sh rf σ' t.heap) (rc_A sh sz)) 0 0 (rc_A sh sz) := by
  refine Met.ofW (cc := cX9_stormOf) (maxL := 3) (ret := (some .int)) (by decide +kernel) rfl ?_
  intro p e s m args below meth c s₁ B hml hv
  obtain ⟨rfl, hsz, hW, hK, hE⟩ := hv
  have hx := B.exec
  have hb := B.bytes
  have hr := B.returns
  have hts : ∀ w ∈ rc_big, w.before _ s = true := fun w h => atoms_spec (ws := Cond.code yX9_stormOf cX9_stormOf 3 (some .int) :: rc_big) B.pre w (List.mem_cons_of_mem _ h)
  have hown : s.vm.findClass RX9 = some m.cls := findClass_of_methodNamed B.named
  have hlocks := B.notSynchronized
  clear B
  subst hsz
  have hS : va_S (rc_A sh s.heap.size) s.heap s.heap [] := va_S.rf
  have hl := lv_entry ([.ref a0, .int u1, .int u2]) (n := 3) (Nat.le_of_ble_eq_true rfl)
  rw [lg_entry_eq]
  generalize (lg_sl ([.ref a0, .int u1, .int u2]) ++ List.replicate (3 - (lg_sl ([.ref a0, .int u1, .int u2])).length) Slot.unset).toArray = ls at hl ⊢
  have hl : lv_has ls 3 [(0, .ref a0), (1, .int u1), (2, .int u2)] := hl
  unfold f_X9_stormOf at hm
  refine lv_aload_n hx hb dX9_stormOf_0 rfl (lv_at hl 0 rfl) ?_
  refine lv_iload_n hx hb dX9_stormOf_1 rfl (lv_at hl 1 rfl) ?_
  refine lv_if_lt (tgt := 28) hx hb dX9_stormOf_2 (by decide) (fun c_20 => ?_) (fun c_20 => ?_)
  · replace hm := rc_t hm c_20
    refine lv_iconst (v := 1) hx hb dX9_stormOf_28 (by decide) ?_
    refine lv_goto (tgt := 46) hx hb dX9_stormOf_29 (by decide) ?_
    refine rp_10_0 hx hb hts hown hK hW hS h0 tw_7_69 dX9_stormOf_46 (fun σ_1 H locs eσ hW hS => ?_)
    replace hm := rc_lt_at hm eσ
    clear eσ
    refine lv_aload_n hx hb dX9_stormOf_49 rfl (lv_at hl 0 rfl) ?_
    refine rg_10_0 hx hb hts hown hK hW h0 tw_7_69 dX9_stormOf_50 ?_
    refine lv_if_le (tgt := 60) hx hb dX9_stormOf_53 (by decide) (fun c_3 => ?_) (fun c_3 => ?_)
    · replace hm := rc_t hm c_3
      refine lv_aload_n hx hb dX9_stormOf_60 rfl (lv_at hl 0 rfl) ?_
      refine rg_10_1 hx hb hts hown hK hW h0 tw_7_70 dX9_stormOf_61 ?_
      refine lv_bipush (v := 71) hx hb dX9_stormOf_64 (by decide) ?_
      refine lv_iconst (v := 3) hx hb dX9_stormOf_66 (by decide) ?_
      refine lv_iload_n hx hb dX9_stormOf_67 rfl (lv_at hl 1 rfl) ?_
      refine lv_bipush (v := 12) hx hb dX9_stormOf_68 (by decide) ?_
      refine lv_irem hx hb dX9_stormOf_70 (by decide) ?_
      refine lv_imul hx hb dX9_stormOf_71 ?_
      refine lv_iadd hx hb dX9_stormOf_72 ?_
      refine lv_iload_n hx hb dX9_stormOf_73 rfl (lv_at hl 2 rfl) ?_
      refine lv_iadd hx hb dX9_stormOf_74 ?_
      have hi_2 := (rc_ix hm).1
      replace hm := (rc_ix hm).2
      refine rc_ialdj (j := (((71 : Int32) + ((3 : Int32) * (u1 - u1 / (12 : Int32) * (12 : Int32)))) + u2).toNatClampNeg) hx hb hK hW (rc_t_10_1 hT h0) (by decide) rfl hi_2 rfl dX9_stormOf_75 ?_
      exact rc_eiret hx hb hr hlocks hW hS (Nat.le_of_ble_eq_true rfl) (Nat.le_of_ble_eq_true rfl) hm dX9_stormOf_76
    · replace hm := rc_f hm c_3
      refine lv_iconst (v := 0) hx hb dX9_stormOf_56 (by decide) ?_
      refine lv_goto (tgt := 76) hx hb dX9_stormOf_57 (by decide) ?_
      exact rc_eiret hx hb hr hlocks hW hS (Nat.le_of_ble_eq_true rfl) (Nat.le_of_ble_eq_true rfl) hm dX9_stormOf_76
  · replace hm := rc_f hm c_20
    refine lv_iload_n hx hb dX9_stormOf_5 rfl (lv_at hl 1 rfl) ?_
    refine lv_aload_n hx hb dX9_stormOf_6 rfl (lv_at hl 0 rfl) ?_
    refine rg_10_1 hx hb hts hown hK hW h0 tw_7_70 dX9_stormOf_7 ?_
    refine lv_iconst (v := 4) hx hb dX9_stormOf_10 (by decide) ?_
    refine rc_ialdj (j := 4) hx hb hK hW (rc_t_10_1 hT h0) (by decide) rfl (rc_inD (by decide)) (by decide) dX9_stormOf_11 ?_
    refine lv_icmp_ge (tgt := 28) hx hb dX9_stormOf_12 (by decide) (fun c_19 => ?_) (fun c_19 => ?_)
    · replace hm := rc_t hm c_19
      refine lv_iconst (v := 1) hx hb dX9_stormOf_28 (by decide) ?_
      refine lv_goto (tgt := 46) hx hb dX9_stormOf_29 (by decide) ?_
      refine rp_10_0 hx hb hts hown hK hW hS h0 tw_7_69 dX9_stormOf_46 (fun σ_4 H locs eσ hW hS => ?_)
      replace hm := rc_lt_at hm eσ
      clear eσ
      refine lv_aload_n hx hb dX9_stormOf_49 rfl (lv_at hl 0 rfl) ?_
      refine rg_10_0 hx hb hts hown hK hW h0 tw_7_69 dX9_stormOf_50 ?_
      refine lv_if_le (tgt := 60) hx hb dX9_stormOf_53 (by decide) (fun c_6 => ?_) (fun c_6 => ?_)
      · replace hm := rc_t hm c_6
        refine lv_aload_n hx hb dX9_stormOf_60 rfl (lv_at hl 0 rfl) ?_
        refine rg_10_1 hx hb hts hown hK hW h0 tw_7_70 dX9_stormOf_61 ?_
        refine lv_bipush (v := 71) hx hb dX9_stormOf_64 (by decide) ?_
        refine lv_iconst (v := 3) hx hb dX9_stormOf_66 (by decide) ?_
        refine lv_iload_n hx hb dX9_stormOf_67 rfl (lv_at hl 1 rfl) ?_
        refine lv_bipush (v := 12) hx hb dX9_stormOf_68 (by decide) ?_
        refine lv_irem hx hb dX9_stormOf_70 (by decide) ?_
        refine lv_imul hx hb dX9_stormOf_71 ?_
        refine lv_iadd hx hb dX9_stormOf_72 ?_
        refine lv_iload_n hx hb dX9_stormOf_73 rfl (lv_at hl 2 rfl) ?_
        refine lv_iadd hx hb dX9_stormOf_74 ?_
        have hi_5 := (rc_ix hm).1
        replace hm := (rc_ix hm).2
        refine rc_ialdj (j := (((71 : Int32) + ((3 : Int32) * (u1 - u1 / (12 : Int32) * (12 : Int32)))) + u2).toNatClampNeg) hx hb hK hW (rc_t_10_1 hT h0) (by decide) rfl hi_5 rfl dX9_stormOf_75 ?_
        exact rc_eiret hx hb hr hlocks hW hS (Nat.le_of_ble_eq_true rfl) (Nat.le_of_ble_eq_true rfl) hm dX9_stormOf_76
      · replace hm := rc_f hm c_6
        refine lv_iconst (v := 0) hx hb dX9_stormOf_56 (by decide) ?_
        refine lv_goto (tgt := 76) hx hb dX9_stormOf_57 (by decide) ?_
        exact rc_eiret hx hb hr hlocks hW hS (Nat.le_of_ble_eq_true rfl) (Nat.le_of_ble_eq_true rfl) hm dX9_stormOf_76
    · replace hm := rc_f hm c_19
      refine lv_iload_n hx hb dX9_stormOf_15 rfl (lv_at hl 1 rfl) ?_
      refine lv_aload_n hx hb dX9_stormOf_16 rfl (lv_at hl 0 rfl) ?_
      refine rg_10_1 hx hb hts hown hK hW h0 tw_7_70 dX9_stormOf_17 ?_
      refine lv_iconst (v := 4) hx hb dX9_stormOf_20 (by decide) ?_
      refine rc_ialdj (j := 4) hx hb hK hW (rc_t_10_1 hT h0) (by decide) rfl (rc_inD (by decide)) (by decide) dX9_stormOf_21 ?_
      refine lv_bipush (v := 12) hx hb dX9_stormOf_22 (by decide) ?_
      refine lv_isub hx hb dX9_stormOf_24 ?_
      refine lv_icmp_ge (tgt := 32) hx hb dX9_stormOf_25 (by decide) (fun c_18 => ?_) (fun c_18 => ?_)
      · replace hm := rc_t hm c_18
        refine lv_iload_n hx hb dX9_stormOf_32 rfl (lv_at hl 2 rfl) ?_
        refine lv_iconst (v := 0) hx hb dX9_stormOf_33 (by decide) ?_
        refine lv_iconst (v := 2) hx hb dX9_stormOf_34 (by decide) ?_
        obtain ⟨w_7, σ_7, hc_7, hm0⟩ := rc_bd_inv hm
        clear hm
        refine rc_ci hS (va_runS (As := [.int u2, .int (0 : Int32), .int (2 : Int32)]) (rest := [.ref a0]) ⟨hx, hb, hml, hown, hts⟩ (k_X9_in l hT u2 (0 : Int32) (2 : Int32)  s.heap.size _ _ _ hc_7) (va_cwS 3 hts (rc_gS tw_7_152 tw_7_153 tw_1_14 tw_7_154) rfl rfl rfl (by decide +kernel) ⟨Nat.le_of_ble_eq_true rfl, Nat.le_of_ble_eq_true rfl⟩) (rc_preS hT hW hK hE hS [.int u2, .int (0 : Int32), .int (2 : Int32)]) rfl rfl hl.1 rfl (lv_room (Nat.le_of_ble_eq_true rfl)) dX9_stormOf_35 ⟨Nat.le_of_ble_eq_true rfl, Nat.le_of_ble_eq_true rfl⟩) (fun H locs hW hS => ?_)
        have hm := hm0
        clear hm0 hc_7
        refine lv_if_eq (tgt := 45) hx hb dX9_stormOf_38 (by decide) (fun c_14 => ?_) (fun c_14 => ?_)
        · replace hm := rc_t hm c_14
          refine lv_iconst (v := 2) hx hb dX9_stormOf_45 (by decide) ?_
          refine rp_10_0 hx hb hts hown hK hW hS h0 tw_7_69 dX9_stormOf_46 (fun σ_8 H locs eσ hW hS => ?_)
          replace hm := rc_lt_at hm eσ
          clear eσ
          refine lv_aload_n hx hb dX9_stormOf_49 rfl (lv_at hl 0 rfl) ?_
          refine rg_10_0 hx hb hts hown hK hW h0 tw_7_69 dX9_stormOf_50 ?_
          refine lv_if_le (tgt := 60) hx hb dX9_stormOf_53 (by decide) (fun c_10 => ?_) (fun c_10 => ?_)
          · replace hm := rc_t hm c_10
            refine lv_aload_n hx hb dX9_stormOf_60 rfl (lv_at hl 0 rfl) ?_
            refine rg_10_1 hx hb hts hown hK hW h0 tw_7_70 dX9_stormOf_61 ?_
            refine lv_bipush (v := 71) hx hb dX9_stormOf_64 (by decide) ?_
            refine lv_iconst (v := 3) hx hb dX9_stormOf_66 (by decide) ?_
            refine lv_iload_n hx hb dX9_stormOf_67 rfl (lv_at hl 1 rfl) ?_
            refine lv_bipush (v := 12) hx hb dX9_stormOf_68 (by decide) ?_
            refine lv_irem hx hb dX9_stormOf_70 (by decide) ?_
            refine lv_imul hx hb dX9_stormOf_71 ?_
            refine lv_iadd hx hb dX9_stormOf_72 ?_
            refine lv_iload_n hx hb dX9_stormOf_73 rfl (lv_at hl 2 rfl) ?_
            refine lv_iadd hx hb dX9_stormOf_74 ?_
            have hi_9 := (rc_ix hm).1
            replace hm := (rc_ix hm).2
            refine rc_ialdj (j := (((71 : Int32) + ((3 : Int32) * (u1 - u1 / (12 : Int32) * (12 : Int32)))) + u2).toNatClampNeg) hx hb hK hW (rc_t_10_1 hT h0) (by decide) rfl hi_9 rfl dX9_stormOf_75 ?_
            exact rc_eiret hx hb hr hlocks hW hS (Nat.le_of_ble_eq_true rfl) (Nat.le_of_ble_eq_true rfl) hm dX9_stormOf_76
          · replace hm := rc_f hm c_10
            refine lv_iconst (v := 0) hx hb dX9_stormOf_56 (by decide) ?_
            refine lv_goto (tgt := 76) hx hb dX9_stormOf_57 (by decide) ?_
            exact rc_eiret hx hb hr hlocks hW hS (Nat.le_of_ble_eq_true rfl) (Nat.le_of_ble_eq_true rfl) hm dX9_stormOf_76
        · replace hm := rc_f hm c_14
          refine lv_iconst (v := 0) hx hb dX9_stormOf_41 (by decide) ?_
          refine lv_goto (tgt := 46) hx hb dX9_stormOf_42 (by decide) ?_
          refine rp_10_0 hx hb hts hown hK hW hS h0 tw_7_69 dX9_stormOf_46 (fun σ_11 H locs eσ hW hS => ?_)
          replace hm := rc_lt_at hm eσ
          clear eσ
          refine lv_aload_n hx hb dX9_stormOf_49 rfl (lv_at hl 0 rfl) ?_
          refine rg_10_0 hx hb hts hown hK hW h0 tw_7_69 dX9_stormOf_50 ?_
          refine lv_if_le (tgt := 60) hx hb dX9_stormOf_53 (by decide) (fun c_13 => ?_) (fun c_13 => ?_)
          · replace hm := rc_t hm c_13
            refine lv_aload_n hx hb dX9_stormOf_60 rfl (lv_at hl 0 rfl) ?_
            refine rg_10_1 hx hb hts hown hK hW h0 tw_7_70 dX9_stormOf_61 ?_
            refine lv_bipush (v := 71) hx hb dX9_stormOf_64 (by decide) ?_
            refine lv_iconst (v := 3) hx hb dX9_stormOf_66 (by decide) ?_
            refine lv_iload_n hx hb dX9_stormOf_67 rfl (lv_at hl 1 rfl) ?_
            refine lv_bipush (v := 12) hx hb dX9_stormOf_68 (by decide) ?_
            refine lv_irem hx hb dX9_stormOf_70 (by decide) ?_
            refine lv_imul hx hb dX9_stormOf_71 ?_
            refine lv_iadd hx hb dX9_stormOf_72 ?_
            refine lv_iload_n hx hb dX9_stormOf_73 rfl (lv_at hl 2 rfl) ?_
            refine lv_iadd hx hb dX9_stormOf_74 ?_
            have hi_12 := (rc_ix hm).1
            replace hm := (rc_ix hm).2
            refine rc_ialdj (j := (((71 : Int32) + ((3 : Int32) * (u1 - u1 / (12 : Int32) * (12 : Int32)))) + u2).toNatClampNeg) hx hb hK hW (rc_t_10_1 hT h0) (by decide) rfl hi_12 rfl dX9_stormOf_75 ?_
            exact rc_eiret hx hb hr hlocks hW hS (Nat.le_of_ble_eq_true rfl) (Nat.le_of_ble_eq_true rfl) hm dX9_stormOf_76
          · replace hm := rc_f hm c_13
            refine lv_iconst (v := 0) hx hb dX9_stormOf_56 (by decide) ?_
            refine lv_goto (tgt := 76) hx hb dX9_stormOf_57 (by decide) ?_
            exact rc_eiret hx hb hr hlocks hW hS (Nat.le_of_ble_eq_true rfl) (Nat.le_of_ble_eq_true rfl) hm dX9_stormOf_76
      · replace hm := rc_f hm c_18
        refine lv_iconst (v := 1) hx hb dX9_stormOf_28 (by decide) ?_
        refine lv_goto (tgt := 46) hx hb dX9_stormOf_29 (by decide) ?_
        refine rp_10_0 hx hb hts hown hK hW hS h0 tw_7_69 dX9_stormOf_46 (fun σ_15 H locs eσ hW hS => ?_)
        replace hm := rc_lt_at hm eσ
        clear eσ
        refine lv_aload_n hx hb dX9_stormOf_49 rfl (lv_at hl 0 rfl) ?_
        refine rg_10_0 hx hb hts hown hK hW h0 tw_7_69 dX9_stormOf_50 ?_
        refine lv_if_le (tgt := 60) hx hb dX9_stormOf_53 (by decide) (fun c_17 => ?_) (fun c_17 => ?_)
        · replace hm := rc_t hm c_17
          refine lv_aload_n hx hb dX9_stormOf_60 rfl (lv_at hl 0 rfl) ?_
          refine rg_10_1 hx hb hts hown hK hW h0 tw_7_70 dX9_stormOf_61 ?_
          refine lv_bipush (v := 71) hx hb dX9_stormOf_64 (by decide) ?_
          refine lv_iconst (v := 3) hx hb dX9_stormOf_66 (by decide) ?_
          refine lv_iload_n hx hb dX9_stormOf_67 rfl (lv_at hl 1 rfl) ?_
          refine lv_bipush (v := 12) hx hb dX9_stormOf_68 (by decide) ?_
          refine lv_irem hx hb dX9_stormOf_70 (by decide) ?_
          refine lv_imul hx hb dX9_stormOf_71 ?_
          refine lv_iadd hx hb dX9_stormOf_72 ?_
          refine lv_iload_n hx hb dX9_stormOf_73 rfl (lv_at hl 2 rfl) ?_
          refine lv_iadd hx hb dX9_stormOf_74 ?_
          have hi_16 := (rc_ix hm).1
          replace hm := (rc_ix hm).2
          refine rc_ialdj (j := (((71 : Int32) + ((3 : Int32) * (u1 - u1 / (12 : Int32) * (12 : Int32)))) + u2).toNatClampNeg) hx hb hK hW (rc_t_10_1 hT h0) (by decide) rfl hi_16 rfl dX9_stormOf_75 ?_
          exact rc_eiret hx hb hr hlocks hW hS (Nat.le_of_ble_eq_true rfl) (Nat.le_of_ble_eq_true rfl) hm dX9_stormOf_76
        · replace hm := rc_f hm c_17
          refine lv_iconst (v := 0) hx hb dX9_stormOf_56 (by decide) ?_
          refine lv_goto (tgt := 76) hx hb dX9_stormOf_57 (by decide) ?_
          exact rc_eiret hx hb hr hlocks hW hS (Nat.le_of_ble_eq_true rfl) (Nat.le_of_ble_eq_true rfl) hm dX9_stormOf_76
set_option maxHeartbeats 4000000 in
set_option maxRecDepth 100000 in
theorem k_X9_canPour (l : Launch) {Y : rc_Y} {sh : Nat → Nat} {rf : rc_F} (hT : rc_T Y sh rf) (a0 : Nat) (u1 : Int32) (u2 : Int32) (h0 : sh a0 = 10) (sz : Nat) (σ σ' : rc_S) (r : Int32) (hm : f_X9_canPour rf a0 u1 u2 σ = some (r, σ')) : Met l yX9_canPour (Cond.code yX9_canPour cX9_canPour 3 (some .boolean) :: rc_big) ({ frames := 2, cells := 0, slots := 0, locals := 43 } : Room) (rc_P Y sh rf σ sz [.ref a0, .int u1, .int u2]) (va_Qi (fun (r' : Int32) (_ : Unit) => r' = r) (fun _ t => rc_W Y sh rf σ' t.heap) (rc_A sh sz)) 0 0 (rc_A sh sz) := by
  refine Met.ofW (cc := cX9_canPour) (maxL := 3) (ret := (some .boolean)) (by decide +kernel) rfl ?_
  intro p e s m args below meth c s₁ B hml hv
  obtain ⟨rfl, hsz, hW, hK, hE⟩ := hv
  have hx := B.exec
  have hb := B.bytes
  have hr := B.returns
  have hts : ∀ w ∈ rc_big, w.before _ s = true := fun w h => atoms_spec (ws := Cond.code yX9_canPour cX9_canPour 3 (some .boolean) :: rc_big) B.pre w (List.mem_cons_of_mem _ h)
  have hown : s.vm.findClass RX9 = some m.cls := findClass_of_methodNamed B.named
  have hlocks := B.notSynchronized
  clear B
  subst hsz
  have hS : va_S (rc_A sh s.heap.size) s.heap s.heap [] := va_S.rf
  have hl := lv_entry ([.ref a0, .int u1, .int u2]) (n := 3) (Nat.le_of_ble_eq_true rfl)
  rw [lg_entry_eq]
  generalize (lg_sl ([.ref a0, .int u1, .int u2]) ++ List.replicate (3 - (lg_sl ([.ref a0, .int u1, .int u2])).length) Slot.unset).toArray = ls at hl ⊢
  have hl : lv_has ls 3 [(0, .ref a0), (1, .int u1), (2, .int u2)] := hl
  unfold f_X9_canPour at hm
  refine lv_aload_n hx hb dX9_canPour_0 rfl (lv_at hl 0 rfl) ?_
  refine lv_aload_n hx hb dX9_canPour_1 rfl (lv_at hl 0 rfl) ?_
  refine lv_iload_n hx hb dX9_canPour_2 rfl (lv_at hl 1 rfl) ?_
  obtain ⟨w_1, σ_1, hc_1, hm0⟩ := rc_bd_inv hm
  clear hm
  refine rc_ci hS (va_runV (As := [.int u1]) (rest := [.ref a0]) ⟨hx, hb, hml, hown, hts⟩ (k_X9_isBarrel l hT a0 u1 h0 s.heap.size _ _ _ hc_1) (cwV 1 hts (rc_gV tw_7_211 tw_7_213 tw_p_30 tw_1_14 tw_7_214) rfl rfl rfl (by decide +kernel) ⟨Nat.le_of_ble_eq_true rfl, Nat.le_of_ble_eq_true rfl⟩) (rc_preV hT hW hK hE hS h0 (by decide) rfl (q := (RX9, TX9, 22)) rfl [.int u1]) rfl rfl hl.1 rfl (lv_room (Nat.le_of_ble_eq_true rfl)) dX9_canPour_3 ⟨Nat.le_of_ble_eq_true rfl, Nat.le_of_ble_eq_true rfl⟩) (fun H locs hW hS => ?_)
  have hm := hm0
  clear hm0 hc_1
  refine lv_if_eq (tgt := 21) hx hb dX9_canPour_6 (by decide) (fun c_40 => ?_) (fun c_40 => ?_)
  · replace hm := rc_t hm c_40
    refine lv_iconst (v := 1) hx hb dX9_canPour_21 (by decide) ?_
    refine rp_10_0 hx hb hts hown hK hW hS h0 tw_7_69 dX9_canPour_22 (fun σ_2 H locs eσ hW hS => ?_)
    replace hm := rc_lt_at hm eσ
    clear eσ
    refine lv_aload_n hx hb dX9_canPour_25 rfl (lv_at hl 0 rfl) ?_
    refine rg_10_0 hx hb hts hown hK hW h0 tw_7_69 dX9_canPour_26 ?_
    refine lv_if_gt (tgt := 46) hx hb dX9_canPour_29 (by decide) (fun c_13 => ?_) (fun c_13 => ?_)
    · replace hm := rc_t hm c_13
      refine lv_iconst (v := 0) hx hb dX9_canPour_46 (by decide) ?_
      exact rc_ezret hx hb hr hlocks hW hS (Nat.le_of_ble_eq_true rfl) (Nat.le_of_ble_eq_true rfl) rfl hm dX9_canPour_47
    · replace hm := rc_f hm c_13
      refine lv_iload_n hx hb dX9_canPour_32 rfl (lv_at hl 1 rfl) ?_
      refine lv_iload_n hx hb dX9_canPour_33 rfl (lv_at hl 2 rfl) ?_
      refine lv_icmp_eq (tgt := 46) hx hb dX9_canPour_34 (by decide) (fun c_12 => ?_) (fun c_12 => ?_)
      · replace hm := rc_t hm c_12
        refine lv_iconst (v := 0) hx hb dX9_canPour_46 (by decide) ?_
        exact rc_ezret hx hb hr hlocks hW hS (Nat.le_of_ble_eq_true rfl) (Nat.le_of_ble_eq_true rfl) rfl hm dX9_canPour_47
      · replace hm := rc_f hm c_12
        refine lv_aload_n hx hb dX9_canPour_37 rfl (lv_at hl 0 rfl) ?_
        refine lv_iload_n hx hb dX9_canPour_38 rfl (lv_at hl 1 rfl) ?_
        refine lv_iconst (v := 1) hx hb dX9_canPour_39 (by decide) ?_
        obtain ⟨w_3, σ_3, hc_3, hm0⟩ := rc_bd_inv hm
        clear hm
        refine rc_ci hS (va_runV (As := [.int u1, .int (1 : Int32)]) (rest := []) ⟨hx, hb, hml, hown, hts⟩ (k_X9_of l hT a0 u1 (1 : Int32) h0 H.size _ _ _ hc_3) (cwV 2 hts (rc_gV tw_7_163 tw_7_165 tw_p_20 tw_1_14 tw_7_166) rfl rfl rfl (by decide +kernel) ⟨Nat.le_of_ble_eq_true rfl, Nat.le_of_ble_eq_true rfl⟩) (rc_preV hT hW hK hE hS h0 (by decide) rfl (q := (RX9, TX9, 22)) rfl [.int u1, .int (1 : Int32)]) rfl rfl hl.1 rfl (lv_room (Nat.le_of_ble_eq_true rfl)) dX9_canPour_40 ⟨Nat.le_of_ble_eq_true rfl, Nat.le_of_ble_eq_true rfl⟩) (fun H locs hW hS => ?_)
        have hm := hm0
        clear hm0 hc_3
        refine lv_if_ne (tgt := 48) hx hb dX9_canPour_43 (by decide) (fun c_11 => ?_) (fun c_11 => ?_)
        · replace hm := rc_f hm c_11
          refine lv_aload_n hx hb dX9_canPour_48 rfl (lv_at hl 0 rfl) ?_
          refine lv_iload_n hx hb dX9_canPour_49 rfl (lv_at hl 2 rfl) ?_
          refine lv_iconst (v := 1) hx hb dX9_canPour_50 (by decide) ?_
          obtain ⟨w_4, σ_4, hc_4, hm0⟩ := rc_bd_inv hm
          clear hm
          refine rc_ci hS (va_runV (As := [.int u2, .int (1 : Int32)]) (rest := []) ⟨hx, hb, hml, hown, hts⟩ (k_X9_of l hT a0 u2 (1 : Int32) h0 H.size _ _ _ hc_4) (cwV 2 hts (rc_gV tw_7_163 tw_7_165 tw_p_20 tw_1_14 tw_7_166) rfl rfl rfl (by decide +kernel) ⟨Nat.le_of_ble_eq_true rfl, Nat.le_of_ble_eq_true rfl⟩) (rc_preV hT hW hK hE hS h0 (by decide) rfl (q := (RX9, TX9, 22)) rfl [.int u2, .int (1 : Int32)]) rfl rfl hl.1 rfl (lv_room (Nat.le_of_ble_eq_true rfl)) dX9_canPour_51 ⟨Nat.le_of_ble_eq_true rfl, Nat.le_of_ble_eq_true rfl⟩) (fun H locs hW hS => ?_)
          have hm := hm0
          clear hm0 hc_4
          refine lv_if_eq (tgt := 83) hx hb dX9_canPour_54 (by decide) (fun c_10 => ?_) (fun c_10 => ?_)
          · replace hm := rc_t hm c_10
            refine lv_iconst (v := 1) hx hb dX9_canPour_83 (by decide) ?_
            refine lv_goto (tgt := 88) hx hb dX9_canPour_84 (by decide) ?_
            exact rc_ezret hx hb hr hlocks hW hS (Nat.le_of_ble_eq_true rfl) (Nat.le_of_ble_eq_true rfl) rfl hm dX9_canPour_88
          · replace hm := rc_f hm c_10
            refine lv_aload_n hx hb dX9_canPour_57 rfl (lv_at hl 0 rfl) ?_
            refine lv_iload_n hx hb dX9_canPour_58 rfl (lv_at hl 2 rfl) ?_
            refine lv_iconst (v := 3) hx hb dX9_canPour_59 (by decide) ?_
            obtain ⟨w_5, σ_5, hc_5, hm0⟩ := rc_bd_inv hm
            clear hm
            refine rc_ci hS (va_runV (As := [.int u2, .int (3 : Int32)]) (rest := []) ⟨hx, hb, hml, hown, hts⟩ (k_X9_of l hT a0 u2 (3 : Int32) h0 H.size _ _ _ hc_5) (cwV 2 hts (rc_gV tw_7_163 tw_7_165 tw_p_20 tw_1_14 tw_7_166) rfl rfl rfl (by decide +kernel) ⟨Nat.le_of_ble_eq_true rfl, Nat.le_of_ble_eq_true rfl⟩) (rc_preV hT hW hK hE hS h0 (by decide) rfl (q := (RX9, TX9, 22)) rfl [.int u2, .int (3 : Int32)]) rfl rfl hl.1 rfl (lv_room (Nat.le_of_ble_eq_true rfl)) dX9_canPour_60 ⟨Nat.le_of_ble_eq_true rfl, Nat.le_of_ble_eq_true rfl⟩) (fun H locs hW hS => ?_)
            have hm := hm0
            clear hm0 hc_5
            refine lv_aload_n hx hb dX9_canPour_63 rfl (lv_at hl 0 rfl) ?_
            refine lv_iload_n hx hb dX9_canPour_64 rfl (lv_at hl 1 rfl) ?_
            refine lv_iconst (v := 3) hx hb dX9_canPour_65 (by decide) ?_
            obtain ⟨w_6, σ_6, hc_6, hm0⟩ := rc_bd_inv hm
            clear hm
            refine rc_ci hS (va_runV (As := [.int u1, .int (3 : Int32)]) (rest := [.int w_5]) ⟨hx, hb, hml, hown, hts⟩ (k_X9_of l hT a0 u1 (3 : Int32) h0 H.size _ _ _ hc_6) (cwV 2 hts (rc_gV tw_7_163 tw_7_165 tw_p_20 tw_1_14 tw_7_166) rfl rfl rfl (by decide +kernel) ⟨Nat.le_of_ble_eq_true rfl, Nat.le_of_ble_eq_true rfl⟩) (rc_preV hT hW hK hE hS h0 (by decide) rfl (q := (RX9, TX9, 22)) rfl [.int u1, .int (3 : Int32)]) rfl rfl hl.1 rfl (lv_room (Nat.le_of_ble_eq_true rfl)) dX9_canPour_66 ⟨Nat.le_of_ble_eq_true rfl, Nat.le_of_ble_eq_true rfl⟩) (fun H locs hW hS => ?_)
            have hm := hm0
            clear hm0 hc_6
            refine lv_icmp_ne (tgt := 87) hx hb dX9_canPour_69 (by decide) (fun c_9 => ?_) (fun c_9 => ?_)
            · replace hm := rc_f hm c_9
              refine lv_iconst (v := 0) hx hb dX9_canPour_87 (by decide) ?_
              exact rc_ezret hx hb hr hlocks hW hS (Nat.le_of_ble_eq_true rfl) (Nat.le_of_ble_eq_true rfl) rfl hm dX9_canPour_88
            · replace hm := rc_t hm c_9
              refine lv_aload_n hx hb dX9_canPour_72 rfl (lv_at hl 0 rfl) ?_
              refine lv_iload_n hx hb dX9_canPour_73 rfl (lv_at hl 2 rfl) ?_
              refine lv_iconst (v := 1) hx hb dX9_canPour_74 (by decide) ?_
              obtain ⟨w_7, σ_7, hc_7, hm0⟩ := rc_bd_inv hm
              clear hm
              refine rc_ci hS (va_runV (As := [.int u2, .int (1 : Int32)]) (rest := []) ⟨hx, hb, hml, hown, hts⟩ (k_X9_of l hT a0 u2 (1 : Int32) h0 H.size _ _ _ hc_7) (cwV 2 hts (rc_gV tw_7_163 tw_7_165 tw_p_20 tw_1_14 tw_7_166) rfl rfl rfl (by decide +kernel) ⟨Nat.le_of_ble_eq_true rfl, Nat.le_of_ble_eq_true rfl⟩) (rc_preV hT hW hK hE hS h0 (by decide) rfl (q := (RX9, TX9, 22)) rfl [.int u2, .int (1 : Int32)]) rfl rfl hl.1 rfl (lv_room (Nat.le_of_ble_eq_true rfl)) dX9_canPour_75 ⟨Nat.le_of_ble_eq_true rfl, Nat.le_of_ble_eq_true rfl⟩) (fun H locs hW hS => ?_)
              have hm := hm0
              clear hm0 hc_7
              refine lv_bipush (v := 20) hx hb dX9_canPour_78 (by decide) ?_
              refine lv_icmp_ge (tgt := 87) hx hb dX9_canPour_80 (by decide) (fun c_8 => ?_) (fun c_8 => ?_)
              · replace hm := rc_t hm c_8
                refine lv_iconst (v := 0) hx hb dX9_canPour_87 (by decide) ?_
                exact rc_ezret hx hb hr hlocks hW hS (Nat.le_of_ble_eq_true rfl) (Nat.le_of_ble_eq_true rfl) rfl hm dX9_canPour_88
              · replace hm := rc_f hm c_8
                refine lv_iconst (v := 1) hx hb dX9_canPour_83 (by decide) ?_
                refine lv_goto (tgt := 88) hx hb dX9_canPour_84 (by decide) ?_
                exact rc_ezret hx hb hr hlocks hW hS (Nat.le_of_ble_eq_true rfl) (Nat.le_of_ble_eq_true rfl) rfl hm dX9_canPour_88
        · replace hm := rc_t hm c_11
          refine lv_iconst (v := 0) hx hb dX9_canPour_46 (by decide) ?_
          exact rc_ezret hx hb hr hlocks hW hS (Nat.le_of_ble_eq_true rfl) (Nat.le_of_ble_eq_true rfl) rfl hm dX9_canPour_47
  · replace hm := rc_f hm c_40
    refine lv_aload_n hx hb dX9_canPour_9 rfl (lv_at hl 0 rfl) ?_
    refine lv_iload_n hx hb dX9_canPour_10 rfl (lv_at hl 2 rfl) ?_
    obtain ⟨w_14, σ_14, hc_14, hm0⟩ := rc_bd_inv hm
    clear hm
    refine rc_ci hS (va_runV (As := [.int u2]) (rest := [.ref a0]) ⟨hx, hb, hml, hown, hts⟩ (k_X9_isBarrel l hT a0 u2 h0 H.size _ _ _ hc_14) (cwV 1 hts (rc_gV tw_7_211 tw_7_213 tw_p_30 tw_1_14 tw_7_214) rfl rfl rfl (by decide +kernel) ⟨Nat.le_of_ble_eq_true rfl, Nat.le_of_ble_eq_true rfl⟩) (rc_preV hT hW hK hE hS h0 (by decide) rfl (q := (RX9, TX9, 22)) rfl [.int u2]) rfl rfl hl.1 rfl (lv_room (Nat.le_of_ble_eq_true rfl)) dX9_canPour_11 ⟨Nat.le_of_ble_eq_true rfl, Nat.le_of_ble_eq_true rfl⟩) (fun H locs hW hS => ?_)
    have hm := hm0
    clear hm0 hc_14
    refine lv_if_eq (tgt := 21) hx hb dX9_canPour_14 (by decide) (fun c_39 => ?_) (fun c_39 => ?_)
    · replace hm := rc_t hm c_39
      refine lv_iconst (v := 1) hx hb dX9_canPour_21 (by decide) ?_
      refine rp_10_0 hx hb hts hown hK hW hS h0 tw_7_69 dX9_canPour_22 (fun σ_15 H locs eσ hW hS => ?_)
      replace hm := rc_lt_at hm eσ
      clear eσ
      refine lv_aload_n hx hb dX9_canPour_25 rfl (lv_at hl 0 rfl) ?_
      refine rg_10_0 hx hb hts hown hK hW h0 tw_7_69 dX9_canPour_26 ?_
      refine lv_if_gt (tgt := 46) hx hb dX9_canPour_29 (by decide) (fun c_26 => ?_) (fun c_26 => ?_)
      · replace hm := rc_t hm c_26
        refine lv_iconst (v := 0) hx hb dX9_canPour_46 (by decide) ?_
        exact rc_ezret hx hb hr hlocks hW hS (Nat.le_of_ble_eq_true rfl) (Nat.le_of_ble_eq_true rfl) rfl hm dX9_canPour_47
      · replace hm := rc_f hm c_26
        refine lv_iload_n hx hb dX9_canPour_32 rfl (lv_at hl 1 rfl) ?_
        refine lv_iload_n hx hb dX9_canPour_33 rfl (lv_at hl 2 rfl) ?_
        refine lv_icmp_eq (tgt := 46) hx hb dX9_canPour_34 (by decide) (fun c_25 => ?_) (fun c_25 => ?_)
        · replace hm := rc_t hm c_25
          refine lv_iconst (v := 0) hx hb dX9_canPour_46 (by decide) ?_
          exact rc_ezret hx hb hr hlocks hW hS (Nat.le_of_ble_eq_true rfl) (Nat.le_of_ble_eq_true rfl) rfl hm dX9_canPour_47
        · replace hm := rc_f hm c_25
          refine lv_aload_n hx hb dX9_canPour_37 rfl (lv_at hl 0 rfl) ?_
          refine lv_iload_n hx hb dX9_canPour_38 rfl (lv_at hl 1 rfl) ?_
          refine lv_iconst (v := 1) hx hb dX9_canPour_39 (by decide) ?_
          obtain ⟨w_16, σ_16, hc_16, hm0⟩ := rc_bd_inv hm
          clear hm
          refine rc_ci hS (va_runV (As := [.int u1, .int (1 : Int32)]) (rest := []) ⟨hx, hb, hml, hown, hts⟩ (k_X9_of l hT a0 u1 (1 : Int32) h0 H.size _ _ _ hc_16) (cwV 2 hts (rc_gV tw_7_163 tw_7_165 tw_p_20 tw_1_14 tw_7_166) rfl rfl rfl (by decide +kernel) ⟨Nat.le_of_ble_eq_true rfl, Nat.le_of_ble_eq_true rfl⟩) (rc_preV hT hW hK hE hS h0 (by decide) rfl (q := (RX9, TX9, 22)) rfl [.int u1, .int (1 : Int32)]) rfl rfl hl.1 rfl (lv_room (Nat.le_of_ble_eq_true rfl)) dX9_canPour_40 ⟨Nat.le_of_ble_eq_true rfl, Nat.le_of_ble_eq_true rfl⟩) (fun H locs hW hS => ?_)
          have hm := hm0
          clear hm0 hc_16
          refine lv_if_ne (tgt := 48) hx hb dX9_canPour_43 (by decide) (fun c_24 => ?_) (fun c_24 => ?_)
          · replace hm := rc_f hm c_24
            refine lv_aload_n hx hb dX9_canPour_48 rfl (lv_at hl 0 rfl) ?_
            refine lv_iload_n hx hb dX9_canPour_49 rfl (lv_at hl 2 rfl) ?_
            refine lv_iconst (v := 1) hx hb dX9_canPour_50 (by decide) ?_
            obtain ⟨w_17, σ_17, hc_17, hm0⟩ := rc_bd_inv hm
            clear hm
            refine rc_ci hS (va_runV (As := [.int u2, .int (1 : Int32)]) (rest := []) ⟨hx, hb, hml, hown, hts⟩ (k_X9_of l hT a0 u2 (1 : Int32) h0 H.size _ _ _ hc_17) (cwV 2 hts (rc_gV tw_7_163 tw_7_165 tw_p_20 tw_1_14 tw_7_166) rfl rfl rfl (by decide +kernel) ⟨Nat.le_of_ble_eq_true rfl, Nat.le_of_ble_eq_true rfl⟩) (rc_preV hT hW hK hE hS h0 (by decide) rfl (q := (RX9, TX9, 22)) rfl [.int u2, .int (1 : Int32)]) rfl rfl hl.1 rfl (lv_room (Nat.le_of_ble_eq_true rfl)) dX9_canPour_51 ⟨Nat.le_of_ble_eq_true rfl, Nat.le_of_ble_eq_true rfl⟩) (fun H locs hW hS => ?_)
            have hm := hm0
            clear hm0 hc_17
            refine lv_if_eq (tgt := 83) hx hb dX9_canPour_54 (by decide) (fun c_23 => ?_) (fun c_23 => ?_)
            · replace hm := rc_t hm c_23
              refine lv_iconst (v := 1) hx hb dX9_canPour_83 (by decide) ?_
              refine lv_goto (tgt := 88) hx hb dX9_canPour_84 (by decide) ?_
              exact rc_ezret hx hb hr hlocks hW hS (Nat.le_of_ble_eq_true rfl) (Nat.le_of_ble_eq_true rfl) rfl hm dX9_canPour_88
            · replace hm := rc_f hm c_23
              refine lv_aload_n hx hb dX9_canPour_57 rfl (lv_at hl 0 rfl) ?_
              refine lv_iload_n hx hb dX9_canPour_58 rfl (lv_at hl 2 rfl) ?_
              refine lv_iconst (v := 3) hx hb dX9_canPour_59 (by decide) ?_
              obtain ⟨w_18, σ_18, hc_18, hm0⟩ := rc_bd_inv hm
              clear hm
              refine rc_ci hS (va_runV (As := [.int u2, .int (3 : Int32)]) (rest := []) ⟨hx, hb, hml, hown, hts⟩ (k_X9_of l hT a0 u2 (3 : Int32) h0 H.size _ _ _ hc_18) (cwV 2 hts (rc_gV tw_7_163 tw_7_165 tw_p_20 tw_1_14 tw_7_166) rfl rfl rfl (by decide +kernel) ⟨Nat.le_of_ble_eq_true rfl, Nat.le_of_ble_eq_true rfl⟩) (rc_preV hT hW hK hE hS h0 (by decide) rfl (q := (RX9, TX9, 22)) rfl [.int u2, .int (3 : Int32)]) rfl rfl hl.1 rfl (lv_room (Nat.le_of_ble_eq_true rfl)) dX9_canPour_60 ⟨Nat.le_of_ble_eq_true rfl, Nat.le_of_ble_eq_true rfl⟩) (fun H locs hW hS => ?_)
              have hm := hm0
              clear hm0 hc_18
              refine lv_aload_n hx hb dX9_canPour_63 rfl (lv_at hl 0 rfl) ?_
              refine lv_iload_n hx hb dX9_canPour_64 rfl (lv_at hl 1 rfl) ?_
              refine lv_iconst (v := 3) hx hb dX9_canPour_65 (by decide) ?_
              obtain ⟨w_19, σ_19, hc_19, hm0⟩ := rc_bd_inv hm
              clear hm
              refine rc_ci hS (va_runV (As := [.int u1, .int (3 : Int32)]) (rest := [.int w_18]) ⟨hx, hb, hml, hown, hts⟩ (k_X9_of l hT a0 u1 (3 : Int32) h0 H.size _ _ _ hc_19) (cwV 2 hts (rc_gV tw_7_163 tw_7_165 tw_p_20 tw_1_14 tw_7_166) rfl rfl rfl (by decide +kernel) ⟨Nat.le_of_ble_eq_true rfl, Nat.le_of_ble_eq_true rfl⟩) (rc_preV hT hW hK hE hS h0 (by decide) rfl (q := (RX9, TX9, 22)) rfl [.int u1, .int (3 : Int32)]) rfl rfl hl.1 rfl (lv_room (Nat.le_of_ble_eq_true rfl)) dX9_canPour_66 ⟨Nat.le_of_ble_eq_true rfl, Nat.le_of_ble_eq_true rfl⟩) (fun H locs hW hS => ?_)
              have hm := hm0
              clear hm0 hc_19
              refine lv_icmp_ne (tgt := 87) hx hb dX9_canPour_69 (by decide) (fun c_22 => ?_) (fun c_22 => ?_)
              · replace hm := rc_f hm c_22
                refine lv_iconst (v := 0) hx hb dX9_canPour_87 (by decide) ?_
                exact rc_ezret hx hb hr hlocks hW hS (Nat.le_of_ble_eq_true rfl) (Nat.le_of_ble_eq_true rfl) rfl hm dX9_canPour_88
              · replace hm := rc_t hm c_22
                refine lv_aload_n hx hb dX9_canPour_72 rfl (lv_at hl 0 rfl) ?_
                refine lv_iload_n hx hb dX9_canPour_73 rfl (lv_at hl 2 rfl) ?_
                refine lv_iconst (v := 1) hx hb dX9_canPour_74 (by decide) ?_
                obtain ⟨w_20, σ_20, hc_20, hm0⟩ := rc_bd_inv hm
                clear hm
                refine rc_ci hS (va_runV (As := [.int u2, .int (1 : Int32)]) (rest := []) ⟨hx, hb, hml, hown, hts⟩ (k_X9_of l hT a0 u2 (1 : Int32) h0 H.size _ _ _ hc_20) (cwV 2 hts (rc_gV tw_7_163 tw_7_165 tw_p_20 tw_1_14 tw_7_166) rfl rfl rfl (by decide +kernel) ⟨Nat.le_of_ble_eq_true rfl, Nat.le_of_ble_eq_true rfl⟩) (rc_preV hT hW hK hE hS h0 (by decide) rfl (q := (RX9, TX9, 22)) rfl [.int u2, .int (1 : Int32)]) rfl rfl hl.1 rfl (lv_room (Nat.le_of_ble_eq_true rfl)) dX9_canPour_75 ⟨Nat.le_of_ble_eq_true rfl, Nat.le_of_ble_eq_true rfl⟩) (fun H locs hW hS => ?_)
                have hm := hm0
                clear hm0 hc_20
                refine lv_bipush (v := 20) hx hb dX9_canPour_78 (by decide) ?_
                refine lv_icmp_ge (tgt := 87) hx hb dX9_canPour_80 (by decide) (fun c_21 => ?_) (fun c_21 => ?_)
                · replace hm := rc_t hm c_21
                  refine lv_iconst (v := 0) hx hb dX9_canPour_87 (by decide) ?_
                  exact rc_ezret hx hb hr hlocks hW hS (Nat.le_of_ble_eq_true rfl) (Nat.le_of_ble_eq_true rfl) rfl hm dX9_canPour_88
                · replace hm := rc_f hm c_21
                  refine lv_iconst (v := 1) hx hb dX9_canPour_83 (by decide) ?_
                  refine lv_goto (tgt := 88) hx hb dX9_canPour_84 (by decide) ?_
                  exact rc_ezret hx hb hr hlocks hW hS (Nat.le_of_ble_eq_true rfl) (Nat.le_of_ble_eq_true rfl) rfl hm dX9_canPour_88
          · replace hm := rc_t hm c_24
            refine lv_iconst (v := 0) hx hb dX9_canPour_46 (by decide) ?_
            exact rc_ezret hx hb hr hlocks hW hS (Nat.le_of_ble_eq_true rfl) (Nat.le_of_ble_eq_true rfl) rfl hm dX9_canPour_47
    · replace hm := rc_f hm c_39
      refine lv_iconst (v := 0) hx hb dX9_canPour_17 (by decide) ?_
      refine lv_goto (tgt := 22) hx hb dX9_canPour_18 (by decide) ?_
      refine rp_10_0 hx hb hts hown hK hW hS h0 tw_7_69 dX9_canPour_22 (fun σ_27 H locs eσ hW hS => ?_)
      replace hm := rc_lt_at hm eσ
      clear eσ
      refine lv_aload_n hx hb dX9_canPour_25 rfl (lv_at hl 0 rfl) ?_
      refine rg_10_0 hx hb hts hown hK hW h0 tw_7_69 dX9_canPour_26 ?_
      refine lv_if_gt (tgt := 46) hx hb dX9_canPour_29 (by decide) (fun c_38 => ?_) (fun c_38 => ?_)
      · replace hm := rc_t hm c_38
        refine lv_iconst (v := 0) hx hb dX9_canPour_46 (by decide) ?_
        exact rc_ezret hx hb hr hlocks hW hS (Nat.le_of_ble_eq_true rfl) (Nat.le_of_ble_eq_true rfl) rfl hm dX9_canPour_47
      · replace hm := rc_f hm c_38
        refine lv_iload_n hx hb dX9_canPour_32 rfl (lv_at hl 1 rfl) ?_
        refine lv_iload_n hx hb dX9_canPour_33 rfl (lv_at hl 2 rfl) ?_
        refine lv_icmp_eq (tgt := 46) hx hb dX9_canPour_34 (by decide) (fun c_37 => ?_) (fun c_37 => ?_)
        · replace hm := rc_t hm c_37
          refine lv_iconst (v := 0) hx hb dX9_canPour_46 (by decide) ?_
          exact rc_ezret hx hb hr hlocks hW hS (Nat.le_of_ble_eq_true rfl) (Nat.le_of_ble_eq_true rfl) rfl hm dX9_canPour_47
        · replace hm := rc_f hm c_37
          refine lv_aload_n hx hb dX9_canPour_37 rfl (lv_at hl 0 rfl) ?_
          refine lv_iload_n hx hb dX9_canPour_38 rfl (lv_at hl 1 rfl) ?_
          refine lv_iconst (v := 1) hx hb dX9_canPour_39 (by decide) ?_
          obtain ⟨w_28, σ_28, hc_28, hm0⟩ := rc_bd_inv hm
          clear hm
          refine rc_ci hS (va_runV (As := [.int u1, .int (1 : Int32)]) (rest := []) ⟨hx, hb, hml, hown, hts⟩ (k_X9_of l hT a0 u1 (1 : Int32) h0 H.size _ _ _ hc_28) (cwV 2 hts (rc_gV tw_7_163 tw_7_165 tw_p_20 tw_1_14 tw_7_166) rfl rfl rfl (by decide +kernel) ⟨Nat.le_of_ble_eq_true rfl, Nat.le_of_ble_eq_true rfl⟩) (rc_preV hT hW hK hE hS h0 (by decide) rfl (q := (RX9, TX9, 22)) rfl [.int u1, .int (1 : Int32)]) rfl rfl hl.1 rfl (lv_room (Nat.le_of_ble_eq_true rfl)) dX9_canPour_40 ⟨Nat.le_of_ble_eq_true rfl, Nat.le_of_ble_eq_true rfl⟩) (fun H locs hW hS => ?_)
          have hm := hm0
          clear hm0 hc_28
          refine lv_if_ne (tgt := 48) hx hb dX9_canPour_43 (by decide) (fun c_36 => ?_) (fun c_36 => ?_)
          · replace hm := rc_f hm c_36
            refine lv_aload_n hx hb dX9_canPour_48 rfl (lv_at hl 0 rfl) ?_
            refine lv_iload_n hx hb dX9_canPour_49 rfl (lv_at hl 2 rfl) ?_
            refine lv_iconst (v := 1) hx hb dX9_canPour_50 (by decide) ?_
            obtain ⟨w_29, σ_29, hc_29, hm0⟩ := rc_bd_inv hm
            clear hm
            refine rc_ci hS (va_runV (As := [.int u2, .int (1 : Int32)]) (rest := []) ⟨hx, hb, hml, hown, hts⟩ (k_X9_of l hT a0 u2 (1 : Int32) h0 H.size _ _ _ hc_29) (cwV 2 hts (rc_gV tw_7_163 tw_7_165 tw_p_20 tw_1_14 tw_7_166) rfl rfl rfl (by decide +kernel) ⟨Nat.le_of_ble_eq_true rfl, Nat.le_of_ble_eq_true rfl⟩) (rc_preV hT hW hK hE hS h0 (by decide) rfl (q := (RX9, TX9, 22)) rfl [.int u2, .int (1 : Int32)]) rfl rfl hl.1 rfl (lv_room (Nat.le_of_ble_eq_true rfl)) dX9_canPour_51 ⟨Nat.le_of_ble_eq_true rfl, Nat.le_of_ble_eq_true rfl⟩) (fun H locs hW hS => ?_)
            have hm := hm0
            clear hm0 hc_29
            refine lv_if_eq (tgt := 83) hx hb dX9_canPour_54 (by decide) (fun c_35 => ?_) (fun c_35 => ?_)
            · replace hm := rc_t hm c_35
              refine lv_iconst (v := 1) hx hb dX9_canPour_83 (by decide) ?_
              refine lv_goto (tgt := 88) hx hb dX9_canPour_84 (by decide) ?_
              exact rc_ezret hx hb hr hlocks hW hS (Nat.le_of_ble_eq_true rfl) (Nat.le_of_ble_eq_true rfl) rfl hm dX9_canPour_88
            · replace hm := rc_f hm c_35
              refine lv_aload_n hx hb dX9_canPour_57 rfl (lv_at hl 0 rfl) ?_
              refine lv_iload_n hx hb dX9_canPour_58 rfl (lv_at hl 2 rfl) ?_
              refine lv_iconst (v := 3) hx hb dX9_canPour_59 (by decide) ?_
              obtain ⟨w_30, σ_30, hc_30, hm0⟩ := rc_bd_inv hm
              clear hm
              refine rc_ci hS (va_runV (As := [.int u2, .int (3 : Int32)]) (rest := []) ⟨hx, hb, hml, hown, hts⟩ (k_X9_of l hT a0 u2 (3 : Int32) h0 H.size _ _ _ hc_30) (cwV 2 hts (rc_gV tw_7_163 tw_7_165 tw_p_20 tw_1_14 tw_7_166) rfl rfl rfl (by decide +kernel) ⟨Nat.le_of_ble_eq_true rfl, Nat.le_of_ble_eq_true rfl⟩) (rc_preV hT hW hK hE hS h0 (by decide) rfl (q := (RX9, TX9, 22)) rfl [.int u2, .int (3 : Int32)]) rfl rfl hl.1 rfl (lv_room (Nat.le_of_ble_eq_true rfl)) dX9_canPour_60 ⟨Nat.le_of_ble_eq_true rfl, Nat.le_of_ble_eq_true rfl⟩) (fun H locs hW hS => ?_)
              have hm := hm0
              clear hm0 hc_30
              refine lv_aload_n hx hb dX9_canPour_63 rfl (lv_at hl 0 rfl) ?_
              refine lv_iload_n hx hb dX9_canPour_64 rfl (lv_at hl 1 rfl) ?_
              refine lv_iconst (v := 3) hx hb dX9_canPour_65 (by decide) ?_
              obtain ⟨w_31, σ_31, hc_31, hm0⟩ := rc_bd_inv hm
              clear hm
              refine rc_ci hS (va_runV (As := [.int u1, .int (3 : Int32)]) (rest := [.int w_30]) ⟨hx, hb, hml, hown, hts⟩ (k_X9_of l hT a0 u1 (3 : Int32) h0 H.size _ _ _ hc_31) (cwV 2 hts (rc_gV tw_7_163 tw_7_165 tw_p_20 tw_1_14 tw_7_166) rfl rfl rfl (by decide +kernel) ⟨Nat.le_of_ble_eq_true rfl, Nat.le_of_ble_eq_true rfl⟩) (rc_preV hT hW hK hE hS h0 (by decide) rfl (q := (RX9, TX9, 22)) rfl [.int u1, .int (3 : Int32)]) rfl rfl hl.1 rfl (lv_room (Nat.le_of_ble_eq_true rfl)) dX9_canPour_66 ⟨Nat.le_of_ble_eq_true rfl, Nat.le_of_ble_eq_true rfl⟩) (fun H locs hW hS => ?_)
              have hm := hm0
              clear hm0 hc_31
              refine lv_icmp_ne (tgt := 87) hx hb dX9_canPour_69 (by decide) (fun c_34 => ?_) (fun c_34 => ?_)
              · replace hm := rc_f hm c_34
                refine lv_iconst (v := 0) hx hb dX9_canPour_87 (by decide) ?_
                exact rc_ezret hx hb hr hlocks hW hS (Nat.le_of_ble_eq_true rfl) (Nat.le_of_ble_eq_true rfl) rfl hm dX9_canPour_88
              · replace hm := rc_t hm c_34
                refine lv_aload_n hx hb dX9_canPour_72 rfl (lv_at hl 0 rfl) ?_
                refine lv_iload_n hx hb dX9_canPour_73 rfl (lv_at hl 2 rfl) ?_
                refine lv_iconst (v := 1) hx hb dX9_canPour_74 (by decide) ?_
                obtain ⟨w_32, σ_32, hc_32, hm0⟩ := rc_bd_inv hm
                clear hm
                refine rc_ci hS (va_runV (As := [.int u2, .int (1 : Int32)]) (rest := []) ⟨hx, hb, hml, hown, hts⟩ (k_X9_of l hT a0 u2 (1 : Int32) h0 H.size _ _ _ hc_32) (cwV 2 hts (rc_gV tw_7_163 tw_7_165 tw_p_20 tw_1_14 tw_7_166) rfl rfl rfl (by decide +kernel) ⟨Nat.le_of_ble_eq_true rfl, Nat.le_of_ble_eq_true rfl⟩) (rc_preV hT hW hK hE hS h0 (by decide) rfl (q := (RX9, TX9, 22)) rfl [.int u2, .int (1 : Int32)]) rfl rfl hl.1 rfl (lv_room (Nat.le_of_ble_eq_true rfl)) dX9_canPour_75 ⟨Nat.le_of_ble_eq_true rfl, Nat.le_of_ble_eq_true rfl⟩) (fun H locs hW hS => ?_)
                have hm := hm0
                clear hm0 hc_32
                refine lv_bipush (v := 20) hx hb dX9_canPour_78 (by decide) ?_
                refine lv_icmp_ge (tgt := 87) hx hb dX9_canPour_80 (by decide) (fun c_33 => ?_) (fun c_33 => ?_)
                · replace hm := rc_t hm c_33
                  refine lv_iconst (v := 0) hx hb dX9_canPour_87 (by decide) ?_
                  exact rc_ezret hx hb hr hlocks hW hS (Nat.le_of_ble_eq_true rfl) (Nat.le_of_ble_eq_true rfl) rfl hm dX9_canPour_88
                · replace hm := rc_f hm c_33
                  refine lv_iconst (v := 1) hx hb dX9_canPour_83 (by decide) ?_
                  refine lv_goto (tgt := 88) hx hb dX9_canPour_84 (by decide) ?_
                  exact rc_ezret hx hb hr hlocks hW hS (Nat.le_of_ble_eq_true rfl) (Nat.le_of_ble_eq_true rfl) rfl hm dX9_canPour_88
          · replace hm := rc_t hm c_36
            refine lv_iconst (v := 0) hx hb dX9_canPour_46 (by decide) ?_
            exact rc_ezret hx hb hr hlocks hW hS (Nat.le_of_ble_eq_true rfl) (Nat.le_of_ble_eq_true rfl) rfl hm dX9_canPour_47
set_option maxHeartbeats 4000000 in
set_option maxRecDepth 100000 in
theorem k_X9_measureOf (l : Launch) {Y : rc_Y} {sh : Nat → Nat} {rf : rc_F} (hT : rc_T Y sh rf) (a0 : Nat) (u1 : Int32) (u2 : Int32) (h0 : sh a0 = 10) (sz : Nat) (σ σ' : rc_S) (r : Int32) (hm : f_X9_measureOf rf a0 u1 u2 σ = some (r, σ')) : Met l yX9_measureOf (Cond.code yX9_measureOf cX9_measureOf 3 (some .int) :: rc_big) ({ frames := 3, cells := 0, slots := 0, locals := 66 } : Room) (rc_P Y sh rf σ sz [.ref a0, .int u1, .int u2]) (va_Qi (fun (r' : Int32) (_ : Unit) => r' = r) (fun _ t => rc_W Y sh rf σ' t.heap) (rc_A sh sz)) 0 0 (rc_A sh sz) := by
  refine Met.ofW (cc := cX9_measureOf) (maxL := 3) (ret := (some .int)) (by decide +kernel) rfl ?_
  intro p e s m args below meth c s₁ B hml hv
  obtain ⟨rfl, hsz, hW, hK, hE⟩ := hv
  have hx := B.exec
  have hb := B.bytes
  have hr := B.returns
  have hts : ∀ w ∈ rc_big, w.before _ s = true := fun w h => atoms_spec (ws := Cond.code yX9_measureOf cX9_measureOf 3 (some .int) :: rc_big) B.pre w (List.mem_cons_of_mem _ h)
  have hown : s.vm.findClass RX9 = some m.cls := findClass_of_methodNamed B.named
  have hlocks := B.notSynchronized
  clear B
  subst hsz
  have hS : va_S (rc_A sh s.heap.size) s.heap s.heap [] := va_S.rf
  have hl := lv_entry ([.ref a0, .int u1, .int u2]) (n := 3) (Nat.le_of_ble_eq_true rfl)
  rw [lg_entry_eq]
  generalize (lg_sl ([.ref a0, .int u1, .int u2]) ++ List.replicate (3 - (lg_sl ([.ref a0, .int u1, .int u2])).length) Slot.unset).toArray = ls at hl ⊢
  have hl : lv_has ls 3 [(0, .ref a0), (1, .int u1), (2, .int u2)] := hl
  unfold f_X9_measureOf at hm
  refine lv_iload_n hx hb dX9_measureOf_0 rfl (lv_at hl 2 rfl) ?_
  refine lv_if_ne (tgt := 13) hx hb dX9_measureOf_1 (by decide) (fun c_7 => ?_) (fun c_7 => ?_)
  · replace hm := rc_f hm c_7
    refine lv_iload_n hx hb dX9_measureOf_13 rfl (lv_at hl 2 rfl) ?_
    refine lv_iconst (v := 1) hx hb dX9_measureOf_14 (by decide) ?_
    refine lv_icmp_ne (tgt := 27) hx hb dX9_measureOf_15 (by decide) (fun c_5 => ?_) (fun c_5 => ?_)
    · replace hm := rc_f hm c_5
      refine lv_iload_n hx hb dX9_measureOf_27 rfl (lv_at hl 2 rfl) ?_
      refine lv_iconst (v := 2) hx hb dX9_measureOf_28 (by decide) ?_
      refine lv_icmp_ne (tgt := 40) hx hb dX9_measureOf_29 (by decide) (fun c_3 => ?_) (fun c_3 => ?_)
      · replace hm := rc_f hm c_3
        refine lv_aload_n hx hb dX9_measureOf_40 rfl (lv_at hl 0 rfl) ?_
        refine lv_iload_n hx hb dX9_measureOf_41 rfl (lv_at hl 1 rfl) ?_
        obtain ⟨w_1, σ_1, hc_1, hm0⟩ := rc_bd_inv hm
        clear hm
        refine rc_ci hS (va_runV (As := [.int u1]) (rest := []) ⟨hx, hb, hml, hown, hts⟩ (k_X9_part l hT a0 u1 h0 s.heap.size _ _ _ hc_1) (cwV 1 hts (rc_gV tw_7_227 tw_7_229 tw_p_33 tw_1_14 tw_7_230) rfl rfl rfl (by decide +kernel) ⟨Nat.le_of_ble_eq_true rfl, Nat.le_of_ble_eq_true rfl⟩) (rc_preV hT hW hK hE hS h0 (by decide) rfl (q := (RX9, TX9, 22)) rfl [.int u1]) rfl rfl hl.1 rfl (lv_room (Nat.le_of_ble_eq_true rfl)) dX9_measureOf_42 ⟨Nat.le_of_ble_eq_true rfl, Nat.le_of_ble_eq_true rfl⟩) (fun H locs hW hS => ?_)
        have hm := hm0
        clear hm0 hc_1
        exact rc_eiret hx hb hr hlocks hW hS (Nat.le_of_ble_eq_true rfl) (Nat.le_of_ble_eq_true rfl) hm dX9_measureOf_45
      · replace hm := rc_t hm c_3
        refine lv_aload_n hx hb dX9_measureOf_32 rfl (lv_at hl 0 rfl) ?_
        refine lv_iload_n hx hb dX9_measureOf_33 rfl (lv_at hl 1 rfl) ?_
        obtain ⟨w_2, σ_2, hc_2, hm0⟩ := rc_bd_inv hm
        clear hm
        refine rc_ci hS (va_runV (As := [.int u1]) (rest := []) ⟨hx, hb, hml, hown, hts⟩ (k_X9_ageOf l hT a0 u1 h0 s.heap.size _ _ _ hc_2) (cwV 1 hts (rc_gV tw_8_46 tw_8_48 tw_p_43 tw_1_14 tw_8_49) rfl rfl rfl (by decide +kernel) ⟨Nat.le_of_ble_eq_true rfl, Nat.le_of_ble_eq_true rfl⟩) (rc_preV hT hW hK hE hS h0 (by decide) rfl (q := (RX9, TX9, 22)) rfl [.int u1]) rfl rfl hl.1 rfl (lv_room (Nat.le_of_ble_eq_true rfl)) dX9_measureOf_34 ⟨Nat.le_of_ble_eq_true rfl, Nat.le_of_ble_eq_true rfl⟩) (fun H locs hW hS => ?_)
        have hm := hm0
        clear hm0 hc_2
        refine lv_goto (tgt := 45) hx hb dX9_measureOf_37 (by decide) ?_
        exact rc_eiret hx hb hr hlocks hW hS (Nat.le_of_ble_eq_true rfl) (Nat.le_of_ble_eq_true rfl) hm dX9_measureOf_45
    · replace hm := rc_t hm c_5
      refine lv_aload_n hx hb dX9_measureOf_18 rfl (lv_at hl 0 rfl) ?_
      refine lv_iload_n hx hb dX9_measureOf_19 rfl (lv_at hl 1 rfl) ?_
      refine lv_iconst (v := 0) hx hb dX9_measureOf_20 (by decide) ?_
      obtain ⟨w_4, σ_4, hc_4, hm0⟩ := rc_bd_inv hm
      clear hm
      refine rc_ci hS (va_runV (As := [.int u1, .int (0 : Int32)]) (rest := []) ⟨hx, hb, hml, hown, hts⟩ (k_X9_noteOf l hT a0 u1 (0 : Int32) h0 s.heap.size _ _ _ hc_4) (cwV 2 hts (rc_gV tw_8_42 tw_8_44 tw_p_42 tw_1_14 tw_8_45) rfl rfl rfl (by decide +kernel) ⟨Nat.le_of_ble_eq_true rfl, Nat.le_of_ble_eq_true rfl⟩) (rc_preV hT hW hK hE hS h0 (by decide) rfl (q := (RX9, TX9, 22)) rfl [.int u1, .int (0 : Int32)]) rfl rfl hl.1 rfl (lv_room (Nat.le_of_ble_eq_true rfl)) dX9_measureOf_21 ⟨Nat.le_of_ble_eq_true rfl, Nat.le_of_ble_eq_true rfl⟩) (fun H locs hW hS => ?_)
      have hm := hm0
      clear hm0 hc_4
      refine lv_goto (tgt := 45) hx hb dX9_measureOf_24 (by decide) ?_
      exact rc_eiret hx hb hr hlocks hW hS (Nat.le_of_ble_eq_true rfl) (Nat.le_of_ble_eq_true rfl) hm dX9_measureOf_45
  · replace hm := rc_t hm c_7
    refine lv_aload_n hx hb dX9_measureOf_4 rfl (lv_at hl 0 rfl) ?_
    refine lv_iload_n hx hb dX9_measureOf_5 rfl (lv_at hl 1 rfl) ?_
    refine lv_iconst (v := 1) hx hb dX9_measureOf_6 (by decide) ?_
    obtain ⟨w_6, σ_6, hc_6, hm0⟩ := rc_bd_inv hm
    clear hm
    refine rc_ci hS (va_runV (As := [.int u1, .int (1 : Int32)]) (rest := []) ⟨hx, hb, hml, hown, hts⟩ (k_X9_of l hT a0 u1 (1 : Int32) h0 s.heap.size _ _ _ hc_6) (cwV 2 hts (rc_gV tw_7_163 tw_7_165 tw_p_20 tw_1_14 tw_7_166) rfl rfl rfl (by decide +kernel) ⟨Nat.le_of_ble_eq_true rfl, Nat.le_of_ble_eq_true rfl⟩) (rc_preV hT hW hK hE hS h0 (by decide) rfl (q := (RX9, TX9, 22)) rfl [.int u1, .int (1 : Int32)]) rfl rfl hl.1 rfl (lv_room (Nat.le_of_ble_eq_true rfl)) dX9_measureOf_7 ⟨Nat.le_of_ble_eq_true rfl, Nat.le_of_ble_eq_true rfl⟩) (fun H locs hW hS => ?_)
    have hm := hm0
    clear hm0 hc_6
    refine lv_goto (tgt := 45) hx hb dX9_measureOf_10 (by decide) ?_
    exact rc_eiret hx hb hr hlocks hW hS (Nat.le_of_ble_eq_true rfl) (Nat.le_of_ble_eq_true rfl) hm dX9_measureOf_45
set_option maxHeartbeats 4000000 in
set_option maxRecDepth 100000 in
theorem k_X9_ranked (l : Launch) {Y : rc_Y} {sh : Nat → Nat} {rf : rc_F} (hT : rc_T Y sh rf) (a0 : Nat) (u1 : Int32) (u2 : Int32) (h0 : sh a0 = 10) (sz : Nat) (σ σ' : rc_S) (r : Int32) (hm : f_X9_ranked rf a0 u1 u2 σ = some (r, σ')) : Met l yX9_ranked (Cond.code yX9_ranked cX9_ranked 7 (some .int) :: rc_big) ({ frames := 4, cells := 0, slots := 0, locals := 88 } : Room) (rc_P Y sh rf σ sz [.ref a0, .int u1, .int u2]) (va_Qi (fun (r' : Int32) (_ : Unit) => r' = r) (fun _ t => rc_W Y sh rf σ' t.heap) (rc_A sh sz)) 0 0 (rc_A sh sz) := by
  refine Met.ofW (cc := cX9_ranked) (maxL := 7) (ret := (some .int)) (by decide +kernel) rfl ?_
  intro p e s m args below meth c s₁ B hml hv
  obtain ⟨rfl, hsz, hW, hK, hE⟩ := hv
  have hx := B.exec
  have hb := B.bytes
  have hr := B.returns
  have hts : ∀ w ∈ rc_big, w.before _ s = true := fun w h => atoms_spec (ws := Cond.code yX9_ranked cX9_ranked 7 (some .int) :: rc_big) B.pre w (List.mem_cons_of_mem _ h)
  have hown : s.vm.findClass RX9 = some m.cls := findClass_of_methodNamed B.named
  have hlocks := B.notSynchronized
  clear B
  subst hsz
  have hS : va_S (rc_A sh s.heap.size) s.heap s.heap [] := va_S.rf
  have hl := lv_entry ([.ref a0, .int u1, .int u2]) (n := 7) (Nat.le_of_ble_eq_true rfl)
  rw [lg_entry_eq]
  generalize (lg_sl ([.ref a0, .int u1, .int u2]) ++ List.replicate (7 - (lg_sl ([.ref a0, .int u1, .int u2])).length) Slot.unset).toArray = ls at hl ⊢
  have hl : lv_has ls 7 [(0, .ref a0), (1, .int u1), (2, .int u2)] := hl
  have lp_53 : ∀ (v1 : Int32) (v2 : Int32) (v3 : Int32) (v5 : Int32) (K : Int32 → Int32 → rc_S → Option (Int32 × rc_S)) (hKK : ∀ (v4 v6 : Int32) (σ : rc_S) (H : Heap) (locs : List Loc) (ls : Array Slot), K v4 v6 σ = some (r, σ') → rc_W Y sh rf σ H → va_S (rc_A sh s.heap.size) s.heap H locs → lv_has ls 7 [(0, .ref a0), (1, .int v1), (2, .int v2), (3, .int v3), (4, .int v4)] → W p l e (headSpec (Cond.code yX9_ranked cX9_ranked 7 (some .int) :: rc_big) ({ frames := 4, cells := 0, slots := 0, locals := 88 } : Room)).room s m (([.ref a0, .int u1, .int u2] : List Value).toArray) below meth c H locs (0 + 0 + 0) (0 + 0 + 0) (MQ below (va_Qi (fun (r' : Int32) (_ : Unit) => r' = r) (fun _ t => rc_W Y sh rf σ' t.heap) (rc_A sh s.heap.size)) ([.ref a0, .int u1, .int u2] : List Value).toArray s 0 0 (rc_A sh s.heap.size)) (F0 m 110 ls [])) (n : Nat) (v4 v6 : Int32) (σ : rc_S) (H : Heap) (locs : List Loc) (ls : Array Slot), f_X9_ranked_53 rf a0 v1 v2 v3 v5 K n v4 v6 σ = some (r, σ') → rc_W Y sh rf σ H → va_S (rc_A sh s.heap.size) s.heap H locs → lv_has ls 7 [(0, .ref a0), (1, .int v1), (2, .int v2), (3, .int v3), (4, .int v4), (5, .int v5), (6, .int v6)] → W p l e (headSpec (Cond.code yX9_ranked cX9_ranked 7 (some .int) :: rc_big) ({ frames := 4, cells := 0, slots := 0, locals := 88 } : Room)).room s m (([.ref a0, .int u1, .int u2] : List Value).toArray) below meth c H locs (0 + 0 + 0) (0 + 0 + 0) (MQ below (va_Qi (fun (r' : Int32) (_ : Unit) => r' = r) (fun _ t => rc_W Y sh rf σ' t.heap) (rc_A sh s.heap.size)) ([.ref a0, .int u1, .int u2] : List Value).toArray s 0 0 (rc_A sh s.heap.size)) (F0 m 53 ls []) := by
    intro v1 v2 v3 v5 K hKK n
    induction n with
    | zero =>
      intro v4 v6 σ H locs ls hm
      rw [f_X9_ranked_53] at hm
      cases hm
    | succ n ih =>
      intro v4 v6 σ H locs ls hm hW hS hl
      rw [f_X9_ranked_53] at hm
      refine lv_iload hx hb dX9_ranked_53 (lv_at hl 6 rfl) ?_
      refine lv_aload_n hx hb dX9_ranked_55 rfl (lv_at hl 0 rfl) ?_
      refine rg_10_1 hx hb hts hown hK hW h0 tw_7_70 dX9_ranked_56 ?_
      refine lv_iconst (v := 0) hx hb dX9_ranked_59 (by decide) ?_
      refine rc_ialdj (j := 0) hx hb hK hW (rc_t_10_1 hT h0) (by decide) rfl (rc_inD (by decide)) (by decide) dX9_ranked_60 ?_
      refine lv_icmp_ge (tgt := 110) hx hb dX9_ranked_61 (by decide) (fun c_17 => ?_) (fun c_17 => ?_)
      · replace hm := rc_t hm c_17
        exact hKK v4 v6 σ _ _ _ hm hW hS (lv_sub hl [0, 1, 2, 3, 4] rfl)
      · replace hm := rc_f hm c_17
        refine lv_iload hx hb dX9_ranked_64 (lv_at hl 4 rfl) ?_
        refine lv_aload_n hx hb dX9_ranked_66 rfl (lv_at hl 0 rfl) ?_
        refine lv_iload hx hb dX9_ranked_67 (lv_at hl 6 rfl) ?_
        refine lv_iload_n hx hb dX9_ranked_69 rfl (lv_at hl 1 rfl) ?_
        obtain ⟨w_4, σ_4, hc_4, hm0⟩ := rc_bd_inv hm
        clear hm
        refine rc_ci hS (va_runV (As := [.int v6, .int v1]) (rest := [.int v4]) ⟨hx, hb, hml, hown, hts⟩ (k_X9_measureOf l hT a0 v6 v1 h0 H.size _ _ _ hc_4) (cwV 2 hts (rc_gV tw_8_137 tw_8_139 tw_p_48 tw_1_14 tw_8_140) rfl rfl rfl (by decide +kernel) ⟨Nat.le_of_ble_eq_true rfl, Nat.le_of_ble_eq_true rfl⟩) (rc_preV hT hW hK hE hS h0 (by decide) rfl (q := (RX9, TX9, 22)) rfl [.int v6, .int v1]) rfl rfl hl.1 rfl (lv_room (Nat.le_of_ble_eq_true rfl)) dX9_ranked_70 ⟨Nat.le_of_ble_eq_true rfl, Nat.le_of_ble_eq_true rfl⟩) (fun H locs hW hS => ?_)
        have hm := hm0
        clear hm0 hc_4
        refine lv_iload hx hb dX9_ranked_73 (lv_at hl 5 rfl) ?_
        refine lv_icmp_gt (tgt := 96) hx hb dX9_ranked_75 (by decide) (fun c_16 => ?_) (fun c_16 => ?_)
        · replace hm := rc_t hm c_16
          refine lv_iconst (v := 1) hx hb dX9_ranked_96 (by decide) ?_
          refine lv_goto (tgt := 101) hx hb dX9_ranked_97 (by decide) ?_
          refine lv_iadd hx hb dX9_ranked_101 ?_
          refine lv_topi (fun v4_5 ev => ?_)
          replace hm := rc_lt_at hm ev
          clear ev
          refine lv_istore (lv' := [(4, .int v4_5), (0, .ref a0), (1, .int v1), (2, .int v2), (3, .int v3), (5, .int v5), (6, .int v6)]) hx hb dX9_ranked_102 hl (by decide) rfl (fun ls hl => ?_)
          obtain ⟨v6_6, ev⟩ : ∃ y : Int32, y = (v6 + 1) := ⟨_, rfl⟩
          replace hm := rc_lt_at hm ev
          refine lv_iinc (v := v6_6) (lv' := [(6, .int v6_6), (4, .int v4_5), (0, .ref a0), (1, .int v1), (2, .int v2), (3, .int v3), (5, .int v5)]) hx hb dX9_ranked_104 hl (k := 6) rfl (by rw [ev]; rfl) (by decide) rfl (fun ls hl => ?_)
          clear ev
          refine lv_goto (tgt := 53) hx hb dX9_ranked_107 (by decide) ?_
          exact ih v4_5 v6_6 σ_4 _ _ _ hm hW hS (lv_sub hl [2, 3, 4, 5, 1, 6, 0] rfl)
        · replace hm := rc_f hm c_16
          refine lv_aload_n hx hb dX9_ranked_78 rfl (lv_at hl 0 rfl) ?_
          refine lv_iload hx hb dX9_ranked_79 (lv_at hl 6 rfl) ?_
          refine lv_iload_n hx hb dX9_ranked_81 rfl (lv_at hl 1 rfl) ?_
          obtain ⟨w_7, σ_7, hc_7, hm0⟩ := rc_bd_inv hm
          clear hm
          refine rc_ci hS (va_runV (As := [.int v6, .int v1]) (rest := [.int v4]) ⟨hx, hb, hml, hown, hts⟩ (k_X9_measureOf l hT a0 v6 v1 h0 H.size _ _ _ hc_7) (cwV 2 hts (rc_gV tw_8_137 tw_8_139 tw_p_48 tw_1_14 tw_8_140) rfl rfl rfl (by decide +kernel) ⟨Nat.le_of_ble_eq_true rfl, Nat.le_of_ble_eq_true rfl⟩) (rc_preV hT hW hK hE hS h0 (by decide) rfl (q := (RX9, TX9, 22)) rfl [.int v6, .int v1]) rfl rfl hl.1 rfl (lv_room (Nat.le_of_ble_eq_true rfl)) dX9_ranked_82 ⟨Nat.le_of_ble_eq_true rfl, Nat.le_of_ble_eq_true rfl⟩) (fun H locs hW hS => ?_)
          have hm := hm0
          clear hm0 hc_7
          refine lv_iload hx hb dX9_ranked_85 (lv_at hl 5 rfl) ?_
          refine lv_icmp_ne (tgt := 100) hx hb dX9_ranked_87 (by decide) (fun c_15 => ?_) (fun c_15 => ?_)
          · replace hm := rc_f hm c_15
            refine lv_iconst (v := 0) hx hb dX9_ranked_100 (by decide) ?_
            refine lv_iadd hx hb dX9_ranked_101 ?_
            refine lv_topi (fun v4_8 ev => ?_)
            replace hm := rc_lt_at hm ev
            clear ev
            refine lv_istore (lv' := [(4, .int v4_8), (0, .ref a0), (1, .int v1), (2, .int v2), (3, .int v3), (5, .int v5), (6, .int v6)]) hx hb dX9_ranked_102 hl (by decide) rfl (fun ls hl => ?_)
            obtain ⟨v6_9, ev⟩ : ∃ y : Int32, y = (v6 + 1) := ⟨_, rfl⟩
            replace hm := rc_lt_at hm ev
            refine lv_iinc (v := v6_9) (lv' := [(6, .int v6_9), (4, .int v4_8), (0, .ref a0), (1, .int v1), (2, .int v2), (3, .int v3), (5, .int v5)]) hx hb dX9_ranked_104 hl (k := 6) rfl (by rw [ev]; rfl) (by decide) rfl (fun ls hl => ?_)
            clear ev
            refine lv_goto (tgt := 53) hx hb dX9_ranked_107 (by decide) ?_
            exact ih v4_8 v6_9 σ_7 _ _ _ hm hW hS (lv_sub hl [2, 3, 4, 5, 1, 6, 0] rfl)
          · replace hm := rc_t hm c_15
            refine lv_iload hx hb dX9_ranked_90 (lv_at hl 6 rfl) ?_
            refine lv_iload_n hx hb dX9_ranked_92 rfl (lv_at hl 3 rfl) ?_
            refine lv_icmp_ge (tgt := 100) hx hb dX9_ranked_93 (by decide) (fun c_14 => ?_) (fun c_14 => ?_)
            · replace hm := rc_t hm c_14
              refine lv_iconst (v := 0) hx hb dX9_ranked_100 (by decide) ?_
              refine lv_iadd hx hb dX9_ranked_101 ?_
              refine lv_topi (fun v4_10 ev => ?_)
              replace hm := rc_lt_at hm ev
              clear ev
              refine lv_istore (lv' := [(4, .int v4_10), (0, .ref a0), (1, .int v1), (2, .int v2), (3, .int v3), (5, .int v5), (6, .int v6)]) hx hb dX9_ranked_102 hl (by decide) rfl (fun ls hl => ?_)
              obtain ⟨v6_11, ev⟩ : ∃ y : Int32, y = (v6 + 1) := ⟨_, rfl⟩
              replace hm := rc_lt_at hm ev
              refine lv_iinc (v := v6_11) (lv' := [(6, .int v6_11), (4, .int v4_10), (0, .ref a0), (1, .int v1), (2, .int v2), (3, .int v3), (5, .int v5)]) hx hb dX9_ranked_104 hl (k := 6) rfl (by rw [ev]; rfl) (by decide) rfl (fun ls hl => ?_)
              clear ev
              refine lv_goto (tgt := 53) hx hb dX9_ranked_107 (by decide) ?_
              exact ih v4_10 v6_11 σ_7 _ _ _ hm hW hS (lv_sub hl [2, 3, 4, 5, 1, 6, 0] rfl)
            · replace hm := rc_f hm c_14
              refine lv_iconst (v := 1) hx hb dX9_ranked_96 (by decide) ?_
              refine lv_goto (tgt := 101) hx hb dX9_ranked_97 (by decide) ?_
              refine lv_iadd hx hb dX9_ranked_101 ?_
              refine lv_topi (fun v4_12 ev => ?_)
              replace hm := rc_lt_at hm ev
              clear ev
              refine lv_istore (lv' := [(4, .int v4_12), (0, .ref a0), (1, .int v1), (2, .int v2), (3, .int v3), (5, .int v5), (6, .int v6)]) hx hb dX9_ranked_102 hl (by decide) rfl (fun ls hl => ?_)
              obtain ⟨v6_13, ev⟩ : ∃ y : Int32, y = (v6 + 1) := ⟨_, rfl⟩
              replace hm := rc_lt_at hm ev
              refine lv_iinc (v := v6_13) (lv' := [(6, .int v6_13), (4, .int v4_12), (0, .ref a0), (1, .int v1), (2, .int v2), (3, .int v3), (5, .int v5)]) hx hb dX9_ranked_104 hl (k := 6) rfl (by rw [ev]; rfl) (by decide) rfl (fun ls hl => ?_)
              clear ev
              refine lv_goto (tgt := 53) hx hb dX9_ranked_107 (by decide) ?_
              exact ih v4_12 v6_13 σ_7 _ _ _ hm hW hS (lv_sub hl [2, 3, 4, 5, 1, 6, 0] rfl)
  have lp_29 : ∀ (v1 : Int32) (v2 : Int32) (K : Int32 → rc_S → Option (Int32 × rc_S)) (hKK : ∀ (v3 : Int32) (σ : rc_S) (H : Heap) (locs : List Loc) (ls : Array Slot), K v3 σ = some (r, σ') → rc_W Y sh rf σ H → va_S (rc_A sh s.heap.size) s.heap H locs → lv_has ls 7 [(0, .ref a0)] → W p l e (headSpec (Cond.code yX9_ranked cX9_ranked 7 (some .int) :: rc_big) ({ frames := 4, cells := 0, slots := 0, locals := 88 } : Room)).room s m (([.ref a0, .int u1, .int u2] : List Value).toArray) below meth c H locs (0 + 0) (0 + 0) (MQ below (va_Qi (fun (r' : Int32) (_ : Unit) => r' = r) (fun _ t => rc_W Y sh rf σ' t.heap) (rc_A sh s.heap.size)) ([.ref a0, .int u1, .int u2] : List Value).toArray s 0 0 (rc_A sh s.heap.size)) (F0 m 124 ls [])) (n : Nat) (v3 : Int32) (σ : rc_S) (H : Heap) (locs : List Loc) (ls : Array Slot), f_X9_ranked_29 rf a0 v1 v2 K n v3 σ = some (r, σ') → rc_W Y sh rf σ H → va_S (rc_A sh s.heap.size) s.heap H locs → lv_has ls 7 [(0, .ref a0), (1, .int v1), (2, .int v2), (3, .int v3)] → W p l e (headSpec (Cond.code yX9_ranked cX9_ranked 7 (some .int) :: rc_big) ({ frames := 4, cells := 0, slots := 0, locals := 88 } : Room)).room s m (([.ref a0, .int u1, .int u2] : List Value).toArray) below meth c H locs (0 + 0) (0 + 0) (MQ below (va_Qi (fun (r' : Int32) (_ : Unit) => r' = r) (fun _ t => rc_W Y sh rf σ' t.heap) (rc_A sh s.heap.size)) ([.ref a0, .int u1, .int u2] : List Value).toArray s 0 0 (rc_A sh s.heap.size)) (F0 m 29 ls []) := by
    intro v1 v2 K hKK n
    induction n with
    | zero =>
      intro v3 σ H locs ls hm
      rw [f_X9_ranked_29] at hm
      cases hm
    | succ n ih =>
      intro v3 σ H locs ls hm hW hS hl
      rw [f_X9_ranked_29] at hm
      refine lv_iload_n hx hb dX9_ranked_29 rfl (lv_at hl 3 rfl) ?_
      refine lv_aload_n hx hb dX9_ranked_30 rfl (lv_at hl 0 rfl) ?_
      refine rg_10_1 hx hb hts hown hK hW h0 tw_7_70 dX9_ranked_31 ?_
      refine lv_iconst (v := 0) hx hb dX9_ranked_34 (by decide) ?_
      refine rc_ialdj (j := 0) hx hb hK hW (rc_t_10_1 hT h0) (by decide) rfl (rc_inD (by decide)) (by decide) dX9_ranked_35 ?_
      refine lv_icmp_ge (tgt := 124) hx hb dX9_ranked_36 (by decide) (fun c_23 => ?_) (fun c_23 => ?_)
      · replace hm := rc_t hm c_23
        exact hKK v3 σ _ _ _ hm hW hS (lv_sub hl [0] rfl)
      · replace hm := rc_f hm c_23
        refine lv_iconst (v := 0) hx hb dX9_ranked_39 (by decide) ?_
        refine lv_istore (lv' := [(4, .int (0 : Int32)), (0, .ref a0), (1, .int v1), (2, .int v2), (3, .int v3)]) hx hb dX9_ranked_40 hl (by decide) rfl (fun ls hl => ?_)
        refine lv_aload_n hx hb dX9_ranked_42 rfl (lv_at hl 1 rfl) ?_
        refine lv_iload_n hx hb dX9_ranked_43 rfl (lv_at hl 4 rfl) ?_
        refine lv_iload_n hx hb dX9_ranked_44 rfl (lv_at hl 2 rfl) ?_
        obtain ⟨w_3, σ_3, hc_3, hm0⟩ := rc_bd_inv hm
        clear hm
        refine rc_ci hS (va_runV (As := [.int v3, .int v1]) (rest := []) ⟨hx, hb, hml, hown, hts⟩ (k_X9_measureOf l hT a0 v3 v1 h0 H.size _ _ _ hc_3) (cwV 2 hts (rc_gV tw_8_137 tw_8_139 tw_p_48 tw_1_14 tw_8_140) rfl rfl rfl (by decide +kernel) ⟨Nat.le_of_ble_eq_true rfl, Nat.le_of_ble_eq_true rfl⟩) (rc_preV hT hW hK hE hS h0 (by decide) rfl (q := (RX9, TX9, 22)) rfl [.int v3, .int v1]) rfl rfl hl.1 rfl (lv_room (Nat.le_of_ble_eq_true rfl)) dX9_ranked_45 ⟨Nat.le_of_ble_eq_true rfl, Nat.le_of_ble_eq_true rfl⟩) (fun H locs hW hS => ?_)
        have hm := hm0
        clear hm0 hc_3
        refine lv_istore (lv' := [(5, .int w_3), (4, .int (0 : Int32)), (0, .ref a0), (1, .int v1), (2, .int v2), (3, .int v3)]) hx hb dX9_ranked_48 hl (by decide) rfl (fun ls hl => ?_)
        refine lv_iconst (v := 0) hx hb dX9_ranked_50 (by decide) ?_
        refine lv_istore (lv' := [(6, .int (0 : Int32)), (5, .int w_3), (4, .int (0 : Int32)), (0, .ref a0), (1, .int v1), (2, .int v2), (3, .int v3)]) hx hb dX9_ranked_51 hl (by decide) rfl (fun ls hl => ?_)
        refine lp_53 v1 v2 v3 w_3 _ (fun v4_18 v6_19 σ_20 H locs ls hm hW hS hl => ?_) rc_fu (0 : Int32) (0 : Int32) σ_3 _ _ _ hm hW hS (lv_sub hl [3, 4, 5, 6, 2, 1, 0] rfl)
        refine lv_iload hx hb dX9_ranked_110 (lv_at hl 4 rfl) ?_
        refine lv_iload_n hx hb dX9_ranked_112 rfl (lv_at hl 2 rfl) ?_
        refine lv_icmp_ne (tgt := 118) hx hb dX9_ranked_113 (by decide) (fun c_22 => ?_) (fun c_22 => ?_)
        · replace hm := rc_f hm c_22
          obtain ⟨v3_21, ev⟩ : ∃ y : Int32, y = (v3 + 1) := ⟨_, rfl⟩
          replace hm := rc_lt_at hm ev
          refine lv_iinc (v := v3_21) (lv' := [(3, .int v3_21), (0, .ref a0), (1, .int v1), (2, .int v2), (4, .int v4_18)]) hx hb dX9_ranked_118 hl (k := 3) rfl (by rw [ev]; rfl) (by decide) rfl (fun ls hl => ?_)
          clear ev
          refine lv_goto (tgt := 29) hx hb dX9_ranked_121 (by decide) ?_
          exact ih v3_21 σ_20 _ _ _ hm hW hS (lv_sub hl [1, 2, 3, 0] rfl)
        · replace hm := rc_t hm c_22
          refine lv_iload_n hx hb dX9_ranked_116 rfl (lv_at hl 3 rfl) ?_
          exact rc_eiret hx hb hr hlocks hW hS (Nat.le_of_ble_eq_true rfl) (Nat.le_of_ble_eq_true rfl) hm dX9_ranked_117
  unfold f_X9_ranked at hm
  refine lv_aload_n hx hb dX9_ranked_0 rfl (lv_at hl 0 rfl) ?_
  refine lv_iload_n hx hb dX9_ranked_1 rfl (lv_at hl 1 rfl) ?_
  refine lv_iconst (v := 0) hx hb dX9_ranked_2 (by decide) ?_
  refine lv_iconst (v := 3) hx hb dX9_ranked_3 (by decide) ?_
  obtain ⟨w_1, σ_1, hc_1, hm0⟩ := rc_bd_inv hm
  clear hm
  refine rc_ci hS (va_runS (As := [.int u1, .int (0 : Int32), .int (3 : Int32)]) (rest := [.ref a0]) ⟨hx, hb, hml, hown, hts⟩ (k_X9_in l hT u1 (0 : Int32) (3 : Int32)  s.heap.size _ _ _ hc_1) (va_cwS 3 hts (rc_gS tw_7_152 tw_7_153 tw_1_14 tw_7_154) rfl rfl rfl (by decide +kernel) ⟨Nat.le_of_ble_eq_true rfl, Nat.le_of_ble_eq_true rfl⟩) (rc_preS hT hW hK hE hS [.int u1, .int (0 : Int32), .int (3 : Int32)]) rfl rfl hl.1 rfl (lv_room (Nat.le_of_ble_eq_true rfl)) dX9_ranked_4 ⟨Nat.le_of_ble_eq_true rfl, Nat.le_of_ble_eq_true rfl⟩) (fun H locs hW hS => ?_)
  have hm := hm0
  clear hm0 hc_1
  refine lv_if_eq (tgt := 14) hx hb dX9_ranked_7 (by decide) (fun c_33 => ?_) (fun c_33 => ?_)
  · replace hm := rc_t hm c_33
    refine lv_iconst (v := 1) hx hb dX9_ranked_14 (by decide) ?_
    refine rp_10_0 hx hb hts hown hK hW hS h0 tw_7_69 dX9_ranked_15 (fun σ_2 H locs eσ hW hS => ?_)
    replace hm := rc_lt_at hm eσ
    clear eσ
    refine lv_aload_n hx hb dX9_ranked_18 rfl (lv_at hl 0 rfl) ?_
    refine rg_10_0 hx hb hts hown hK hW h0 tw_7_69 dX9_ranked_19 ?_
    refine lv_if_le (tgt := 27) hx hb dX9_ranked_22 (by decide) (fun c_27 => ?_) (fun c_27 => ?_)
    · replace hm := rc_t hm c_27
      refine lv_iconst (v := 0) hx hb dX9_ranked_27 (by decide) ?_
      refine lv_istore_n (lv' := [(3, .int (0 : Int32)), (0, .ref a0), (1, .int u1), (2, .int u2)]) hx hb dX9_ranked_28 rfl hl (by decide) rfl (fun ls hl => ?_)
      refine lp_29 u1 u2 _ (fun v3_24 σ_25 H locs ls hm hW hS hl => ?_) rc_fu (0 : Int32) σ_2 _ _ _ hm hW hS (lv_sub hl [1, 2, 3, 0] rfl)
      refine lv_aload_n hx hb dX9_ranked_124 rfl (lv_at hl 0 rfl) ?_
      refine lv_iconst (v := 2) hx hb dX9_ranked_125 (by decide) ?_
      obtain ⟨w_26, σ_26, hc_26, hm0⟩ := rc_bd_inv hm
      clear hm
      refine rc_ci hS (va_runV (As := [.int (2 : Int32)]) (rest := []) ⟨hx, hb, hml, hown, hts⟩ (k_X9_fails l hT a0 (2 : Int32) h0 H.size _ _ _ hc_26) (cwV 1 hts (rc_gV tw_7_187 tw_7_189 tw_p_26 tw_1_14 tw_7_190) rfl rfl rfl (by decide +kernel) ⟨Nat.le_of_ble_eq_true rfl, Nat.le_of_ble_eq_true rfl⟩) (rc_preV hT hW hK hE hS h0 (by decide) rfl (q := (RX9, TX9, 22)) rfl [.int (2 : Int32)]) rfl rfl hl.1 rfl (lv_room (Nat.le_of_ble_eq_true rfl)) dX9_ranked_126 ⟨Nat.le_of_ble_eq_true rfl, Nat.le_of_ble_eq_true rfl⟩) (fun H locs hW hS => ?_)
      have hm := hm0
      clear hm0 hc_26
      exact rc_eiret hx hb hr hlocks hW hS (Nat.le_of_ble_eq_true rfl) (Nat.le_of_ble_eq_true rfl) hm dX9_ranked_129
    · replace hm := rc_f hm c_27
      refine lv_iconst (v := 0) hx hb dX9_ranked_25 (by decide) ?_
      exact rc_eiret hx hb hr hlocks hW hS (Nat.le_of_ble_eq_true rfl) (Nat.le_of_ble_eq_true rfl) hm dX9_ranked_26
  · replace hm := rc_f hm c_33
    refine lv_iconst (v := 0) hx hb dX9_ranked_10 (by decide) ?_
    refine lv_goto (tgt := 15) hx hb dX9_ranked_11 (by decide) ?_
    refine rp_10_0 hx hb hts hown hK hW hS h0 tw_7_69 dX9_ranked_15 (fun σ_28 H locs eσ hW hS => ?_)
    replace hm := rc_lt_at hm eσ
    clear eσ
    refine lv_aload_n hx hb dX9_ranked_18 rfl (lv_at hl 0 rfl) ?_
    refine rg_10_0 hx hb hts hown hK hW h0 tw_7_69 dX9_ranked_19 ?_
    refine lv_if_le (tgt := 27) hx hb dX9_ranked_22 (by decide) (fun c_32 => ?_) (fun c_32 => ?_)
    · replace hm := rc_t hm c_32
      refine lv_iconst (v := 0) hx hb dX9_ranked_27 (by decide) ?_
      refine lv_istore_n (lv' := [(3, .int (0 : Int32)), (0, .ref a0), (1, .int u1), (2, .int u2)]) hx hb dX9_ranked_28 rfl hl (by decide) rfl (fun ls hl => ?_)
      refine lp_29 u1 u2 _ (fun v3_29 σ_30 H locs ls hm hW hS hl => ?_) rc_fu (0 : Int32) σ_28 _ _ _ hm hW hS (lv_sub hl [1, 2, 3, 0] rfl)
      refine lv_aload_n hx hb dX9_ranked_124 rfl (lv_at hl 0 rfl) ?_
      refine lv_iconst (v := 2) hx hb dX9_ranked_125 (by decide) ?_
      obtain ⟨w_31, σ_31, hc_31, hm0⟩ := rc_bd_inv hm
      clear hm
      refine rc_ci hS (va_runV (As := [.int (2 : Int32)]) (rest := []) ⟨hx, hb, hml, hown, hts⟩ (k_X9_fails l hT a0 (2 : Int32) h0 H.size _ _ _ hc_31) (cwV 1 hts (rc_gV tw_7_187 tw_7_189 tw_p_26 tw_1_14 tw_7_190) rfl rfl rfl (by decide +kernel) ⟨Nat.le_of_ble_eq_true rfl, Nat.le_of_ble_eq_true rfl⟩) (rc_preV hT hW hK hE hS h0 (by decide) rfl (q := (RX9, TX9, 22)) rfl [.int (2 : Int32)]) rfl rfl hl.1 rfl (lv_room (Nat.le_of_ble_eq_true rfl)) dX9_ranked_126 ⟨Nat.le_of_ble_eq_true rfl, Nat.le_of_ble_eq_true rfl⟩) (fun H locs hW hS => ?_)
      have hm := hm0
      clear hm0 hc_31
      exact rc_eiret hx hb hr hlocks hW hS (Nat.le_of_ble_eq_true rfl) (Nat.le_of_ble_eq_true rfl) hm dX9_ranked_129
    · replace hm := rc_f hm c_32
      refine lv_iconst (v := 0) hx hb dX9_ranked_25 (by decide) ?_
      exact rc_eiret hx hb hr hlocks hW hS (Nat.le_of_ble_eq_true rfl) (Nat.le_of_ble_eq_true rfl) hm dX9_ranked_26
set_option maxHeartbeats 4000000 in
set_option maxRecDepth 100000 in
theorem k_X9_allLitres (l : Launch) {Y : rc_Y} {sh : Nat → Nat} {rf : rc_F} (hT : rc_T Y sh rf) (a0 : Nat) (h0 : sh a0 = 10) (sz : Nat) (σ σ' : rc_S) (r : Int32) (hm : f_X9_allLitres rf a0 σ = some (r, σ')) : Met l yX9_allLitres (Cond.code yX9_allLitres cX9_allLitres 3 (some .int) :: rc_big) ({ frames := 1, cells := 0, slots := 0, locals := 22 } : Room) (rc_P Y sh rf σ sz [.ref a0]) (va_Qi (fun (r' : Int32) (_ : Unit) => r' = r) (fun _ t => rc_W Y sh rf σ' t.heap) (rc_A sh sz)) 0 0 (rc_A sh sz) := by
  refine Met.ofW (cc := cX9_allLitres) (maxL := 3) (ret := (some .int)) (by decide +kernel) rfl ?_
  intro p e s m args below meth c s₁ B hml hv
  obtain ⟨rfl, hsz, hW, hK, hE⟩ := hv
  have hx := B.exec
  have hb := B.bytes
  have hr := B.returns
  have hts : ∀ w ∈ rc_big, w.before _ s = true := fun w h => atoms_spec (ws := Cond.code yX9_allLitres cX9_allLitres 3 (some .int) :: rc_big) B.pre w (List.mem_cons_of_mem _ h)
  have hown : s.vm.findClass RX9 = some m.cls := findClass_of_methodNamed B.named
  have hlocks := B.notSynchronized
  clear B
  subst hsz
  have hS : va_S (rc_A sh s.heap.size) s.heap s.heap [] := va_S.rf
  have hl := lv_entry ([.ref a0]) (n := 3) (Nat.le_of_ble_eq_true rfl)
  rw [lg_entry_eq]
  generalize (lg_sl ([.ref a0]) ++ List.replicate (3 - (lg_sl ([.ref a0])).length) Slot.unset).toArray = ls at hl ⊢
  have hl : lv_has ls 3 [(0, .ref a0)] := hl
  have lp_4 : ∀ (K : Int32 → Int32 → rc_S → Option (Int32 × rc_S)) (hKK : ∀ (v1 v2 : Int32) (σ : rc_S) (H : Heap) (locs : List Loc) (ls : Array Slot), K v1 v2 σ = some (r, σ') → rc_W Y sh rf σ H → va_S (rc_A sh s.heap.size) s.heap H locs → lv_has ls 3 [(1, .int v1)] → W p l e (headSpec (Cond.code yX9_allLitres cX9_allLitres 3 (some .int) :: rc_big) ({ frames := 1, cells := 0, slots := 0, locals := 22 } : Room)).room s m (([.ref a0] : List Value).toArray) below meth c H locs 0 0 (MQ below (va_Qi (fun (r' : Int32) (_ : Unit) => r' = r) (fun _ t => rc_W Y sh rf σ' t.heap) (rc_A sh s.heap.size)) ([.ref a0] : List Value).toArray s 0 0 (rc_A sh s.heap.size)) (F0 m 29 ls [])) (n : Nat) (v1 v2 : Int32) (σ : rc_S) (H : Heap) (locs : List Loc) (ls : Array Slot), f_X9_allLitres_4 rf a0 K n v1 v2 σ = some (r, σ') → rc_W Y sh rf σ H → va_S (rc_A sh s.heap.size) s.heap H locs → lv_has ls 3 [(0, .ref a0), (1, .int v1), (2, .int v2)] → W p l e (headSpec (Cond.code yX9_allLitres cX9_allLitres 3 (some .int) :: rc_big) ({ frames := 1, cells := 0, slots := 0, locals := 22 } : Room)).room s m (([.ref a0] : List Value).toArray) below meth c H locs 0 0 (MQ below (va_Qi (fun (r' : Int32) (_ : Unit) => r' = r) (fun _ t => rc_W Y sh rf σ' t.heap) (rc_A sh s.heap.size)) ([.ref a0] : List Value).toArray s 0 0 (rc_A sh s.heap.size)) (F0 m 4 ls []) := by
    intro  K hKK n
    induction n with
    | zero =>
      intro v1 v2 σ H locs ls hm
      rw [f_X9_allLitres_4] at hm
      cases hm
    | succ n ih =>
      intro v1 v2 σ H locs ls hm hW hS hl
      rw [f_X9_allLitres_4] at hm
      refine lv_iload_n hx hb dX9_allLitres_4 rfl (lv_at hl 2 rfl) ?_
      refine lv_aload_n hx hb dX9_allLitres_5 rfl (lv_at hl 0 rfl) ?_
      refine rg_10_1 hx hb hts hown hK hW h0 tw_7_70 dX9_allLitres_6 ?_
      refine lv_iconst (v := 0) hx hb dX9_allLitres_9 (by decide) ?_
      refine rc_ialdj (j := 0) hx hb hK hW (rc_t_10_1 hT h0) (by decide) rfl (rc_inD (by decide)) (by decide) dX9_allLitres_10 ?_
      refine lv_icmp_ge (tgt := 29) hx hb dX9_allLitres_11 (by decide) (fun c_4 => ?_) (fun c_4 => ?_)
      · replace hm := rc_t hm c_4
        exact hKK v1 v2 σ _ _ _ hm hW hS (lv_sub hl [1] rfl)
      · replace hm := rc_f hm c_4
        refine lv_iload_n hx hb dX9_allLitres_14 rfl (lv_at hl 1 rfl) ?_
        refine lv_aload_n hx hb dX9_allLitres_15 rfl (lv_at hl 0 rfl) ?_
        refine lv_iload_n hx hb dX9_allLitres_16 rfl (lv_at hl 2 rfl) ?_
        refine lv_iconst (v := 1) hx hb dX9_allLitres_17 (by decide) ?_
        obtain ⟨w_1, σ_1, hc_1, hm0⟩ := rc_bd_inv hm
        clear hm
        refine rc_ci hS (va_runV (As := [.int v2, .int (1 : Int32)]) (rest := [.int v1]) ⟨hx, hb, hml, hown, hts⟩ (k_X9_of l hT a0 v2 (1 : Int32) h0 H.size _ _ _ hc_1) (cwV 2 hts (rc_gV tw_7_163 tw_7_165 tw_p_20 tw_1_14 tw_7_166) rfl rfl rfl (by decide +kernel) ⟨Nat.le_of_ble_eq_true rfl, Nat.le_of_ble_eq_true rfl⟩) (rc_preV hT hW hK hE hS h0 (by decide) rfl (q := (RX9, TX9, 22)) rfl [.int v2, .int (1 : Int32)]) rfl rfl hl.1 rfl (lv_room (Nat.le_of_ble_eq_true rfl)) dX9_allLitres_18 ⟨Nat.le_of_ble_eq_true rfl, Nat.le_of_ble_eq_true rfl⟩) (fun H locs hW hS => ?_)
        have hm := hm0
        clear hm0 hc_1
        refine lv_iadd hx hb dX9_allLitres_21 ?_
        refine lv_topi (fun v1_2 ev => ?_)
        replace hm := rc_lt_at hm ev
        clear ev
        refine lv_istore_n (lv' := [(1, .int v1_2), (0, .ref a0), (2, .int v2)]) hx hb dX9_allLitres_22 rfl hl (by decide) rfl (fun ls hl => ?_)
        obtain ⟨v2_3, ev⟩ : ∃ y : Int32, y = (v2 + 1) := ⟨_, rfl⟩
        replace hm := rc_lt_at hm ev
        refine lv_iinc (v := v2_3) (lv' := [(2, .int v2_3), (1, .int v1_2), (0, .ref a0)]) hx hb dX9_allLitres_23 hl (k := 2) rfl (by rw [ev]; rfl) (by decide) rfl (fun ls hl => ?_)
        clear ev
        refine lv_goto (tgt := 4) hx hb dX9_allLitres_26 (by decide) ?_
        exact ih v1_2 v2_3 σ_1 _ _ _ hm hW hS (lv_sub hl [2, 1, 0] rfl)
  unfold f_X9_allLitres at hm
  refine lv_iconst (v := 0) hx hb dX9_allLitres_0 (by decide) ?_
  refine lv_istore_n (lv' := [(1, .int (0 : Int32)), (0, .ref a0)]) hx hb dX9_allLitres_1 rfl hl (by decide) rfl (fun ls hl => ?_)
  refine lv_iconst (v := 0) hx hb dX9_allLitres_2 (by decide) ?_
  refine lv_istore_n (lv' := [(2, .int (0 : Int32)), (1, .int (0 : Int32)), (0, .ref a0)]) hx hb dX9_allLitres_3 rfl hl (by decide) rfl (fun ls hl => ?_)
  refine lp_4 _ (fun v1_5 v2_6 σ_7 H locs ls hm hW hS hl => ?_) rc_fu (0 : Int32) (0 : Int32) σ _ _ _ hm hW hS (lv_sub hl [2, 1, 0] rfl)
  refine lv_iload_n hx hb dX9_allLitres_29 rfl (lv_at hl 0 rfl) ?_
  exact rc_eiret hx hb hr hlocks hW hS (Nat.le_of_ble_eq_true rfl) (Nat.le_of_ble_eq_true rfl) hm dX9_allLitres_30
set_option maxHeartbeats 4000000 in
set_option maxRecDepth 100000 in
theorem k_X9_isEven (l : Launch) {Y : rc_Y} {sh : Nat → Nat} {rf : rc_F} (hT : rc_T Y sh rf) (a0 : Nat) (h0 : sh a0 = 10) (sz : Nat) (σ σ' : rc_S) (r : Int32) (hm : f_X9_isEven rf a0 σ = some (r, σ')) : Met l yX9_isEven (Cond.code yX9_isEven cX9_isEven 1 (some .boolean) :: rc_big) ({ frames := 2, cells := 0, slots := 0, locals := 44 } : Room) (rc_P Y sh rf σ sz [.ref a0]) (va_Qi (fun (r' : Int32) (_ : Unit) => r' = r) (fun _ t => rc_W Y sh rf σ' t.heap) (rc_A sh sz)) 0 0 (rc_A sh sz) := by
  refine Met.ofW (cc := cX9_isEven) (maxL := 1) (ret := (some .boolean)) (by decide +kernel) rfl ?_
  intro p e s m args below meth c s₁ B hml hv
  obtain ⟨rfl, hsz, hW, hK, hE⟩ := hv
  have hx := B.exec
  have hb := B.bytes
  have hr := B.returns
  have hts : ∀ w ∈ rc_big, w.before _ s = true := fun w h => atoms_spec (ws := Cond.code yX9_isEven cX9_isEven 1 (some .boolean) :: rc_big) B.pre w (List.mem_cons_of_mem _ h)
  have hown : s.vm.findClass RX9 = some m.cls := findClass_of_methodNamed B.named
  have hlocks := B.notSynchronized
  clear B
  subst hsz
  have hS : va_S (rc_A sh s.heap.size) s.heap s.heap [] := va_S.rf
  have hl := lv_entry ([.ref a0]) (n := 1) (Nat.le_of_ble_eq_true rfl)
  rw [lg_entry_eq]
  generalize (lg_sl ([.ref a0]) ++ List.replicate (1 - (lg_sl ([.ref a0])).length) Slot.unset).toArray = ls at hl ⊢
  have hl : lv_has ls 1 [(0, .ref a0)] := hl
  unfold f_X9_isEven at hm
  refine lv_aload_n hx hb dX9_isEven_0 rfl (lv_at hl 0 rfl) ?_
  refine lv_iconst (v := 0) hx hb dX9_isEven_1 (by decide) ?_
  refine rp_10_0 hx hb hts hown hK hW hS h0 tw_7_69 dX9_isEven_2 (fun σ_1 H locs eσ hW hS => ?_)
  replace hm := rc_lt_at hm eσ
  clear eσ
  refine lv_aload_n hx hb dX9_isEven_5 rfl (lv_at hl 0 rfl) ?_
  refine rg_10_1 hx hb hts hown hK hW h0 tw_7_70 dX9_isEven_6 ?_
  refine lv_iconst (v := 5) hx hb dX9_isEven_9 (by decide) ?_
  refine rc_ialdj (j := 5) hx hb hK hW (rc_t_10_1 hT h0) (by decide) rfl (rc_inD (by decide)) (by decide) dX9_isEven_10 ?_
  refine lv_aload_n hx hb dX9_isEven_11 rfl (lv_at hl 0 rfl) ?_
  refine rg_10_1 hx hb hts hown hK hW h0 tw_7_70 dX9_isEven_12 ?_
  refine lv_bipush (v := 6) hx hb dX9_isEven_15 (by decide) ?_
  refine rc_ialdj (j := 6) hx hb hK hW (rc_t_10_1 hT h0) (by decide) rfl (rc_inD (by decide)) (by decide) dX9_isEven_17 ?_
  refine lv_iadd hx hb dX9_isEven_18 ?_
  refine lv_aload_n hx hb dX9_isEven_19 rfl (lv_at hl 0 rfl) ?_
  obtain ⟨w_2, σ_2, hc_2, hm0⟩ := rc_bd_inv hm
  clear hm
  refine rc_ci hS (va_runV (As := []) (rest := [.int ((σ_1 (rf a0 1) 5) + (σ_1 (rf a0 1) 6))]) ⟨hx, hb, hml, hown, hts⟩ (k_X9_allLitres l hT a0 h0 H.size _ _ _ hc_2) (cwV 0 hts (rc_gV tw_8_145 tw_8_147 tw_p_49 tw_1_14 tw_8_148) rfl rfl rfl (by decide +kernel) ⟨Nat.le_of_ble_eq_true rfl, Nat.le_of_ble_eq_true rfl⟩) (rc_preV hT hW hK hE hS h0 (by decide) rfl (q := (RX9, TX9, 22)) rfl []) rfl rfl hl.1 rfl (lv_room (Nat.le_of_ble_eq_true rfl)) dX9_isEven_20 ⟨Nat.le_of_ble_eq_true rfl, Nat.le_of_ble_eq_true rfl⟩) (fun H locs hW hS => ?_)
  have hm := hm0
  clear hm0 hc_2
  refine lv_aload_n hx hb dX9_isEven_23 rfl (lv_at hl 0 rfl) ?_
  refine rg_10_1 hx hb hts hown hK hW h0 tw_7_70 dX9_isEven_24 ?_
  refine lv_bipush (v := 8) hx hb dX9_isEven_27 (by decide) ?_
  refine rc_ialdj (j := 8) hx hb hK hW (rc_t_10_1 hT h0) (by decide) rfl (rc_inD (by decide)) (by decide) dX9_isEven_29 ?_
  refine lv_iadd hx hb dX9_isEven_30 ?_
  refine lv_aload_n hx hb dX9_isEven_31 rfl (lv_at hl 0 rfl) ?_
  refine rg_10_1 hx hb hts hown hK hW h0 tw_7_70 dX9_isEven_32 ?_
  refine lv_bipush (v := 9) hx hb dX9_isEven_35 (by decide) ?_
  refine rc_ialdj (j := 9) hx hb hK hW (rc_t_10_1 hT h0) (by decide) rfl (rc_inD (by decide)) (by decide) dX9_isEven_37 ?_
  refine lv_iadd hx hb dX9_isEven_38 ?_
  refine lv_icmp_ne (tgt := 46) hx hb dX9_isEven_39 (by decide) (fun c_3 => ?_) (fun c_3 => ?_)
  · replace hm := rc_f hm c_3
    refine lv_iconst (v := 0) hx hb dX9_isEven_46 (by decide) ?_
    exact rc_ezret hx hb hr hlocks hW hS (Nat.le_of_ble_eq_true rfl) (Nat.le_of_ble_eq_true rfl) rfl hm dX9_isEven_47
  · replace hm := rc_t hm c_3
    refine lv_iconst (v := 1) hx hb dX9_isEven_42 (by decide) ?_
    refine lv_goto (tgt := 47) hx hb dX9_isEven_43 (by decide) ?_
    exact rc_ezret hx hb hr hlocks hW hS (Nat.le_of_ble_eq_true rfl) (Nat.le_of_ble_eq_true rfl) rfl hm dX9_isEven_47
set_option maxHeartbeats 4000000 in
set_option maxRecDepth 100000 in
theorem k_X9_append (l : Launch) {Y : rc_Y} {sh : Nat → Nat} {rf : rc_F} (hT : rc_T Y sh rf) (a0 : Nat) (u1 : Int32) (h0 : sh a0 = 10) (sz : Nat) (σ σ' : rc_S) (r : Int32) (hm : f_X9_append rf a0 u1 σ = some (r, σ')) : Met l yX9_append (Cond.code yX9_append cX9_append 2 (some .int) :: rc_big) ({ frames := 0, cells := 0, slots := 0, locals := 0 } : Room) (rc_P Y sh rf σ sz [.ref a0, .int u1]) (va_Qi (fun (r' : Int32) (_ : Unit) => r' = r) (fun _ t => rc_W Y sh rf σ' t.heap) (rc_A sh sz)) 0 0 (rc_A sh sz) := by
  refine Met.ofW (cc := cX9_append) (maxL := 2) (ret := (some .int)) (by decide +kernel) rfl ?_
  intro p e s m args below meth c s₁ B hml hv
  obtain ⟨rfl, hsz, hW, hK, hE⟩ := hv
  have hx := B.exec
  have hb := B.bytes
  have hr := B.returns
  have hts : ∀ w ∈ rc_big, w.before _ s = true := fun w h => atoms_spec (ws := Cond.code yX9_append cX9_append 2 (some .int) :: rc_big) B.pre w (List.mem_cons_of_mem _ h)
  have hown : s.vm.findClass RX9 = some m.cls := findClass_of_methodNamed B.named
  have hlocks := B.notSynchronized
  clear B
  subst hsz
  have hS : va_S (rc_A sh s.heap.size) s.heap s.heap [] := va_S.rf
  have hl := lv_entry ([.ref a0, .int u1]) (n := 2) (Nat.le_of_ble_eq_true rfl)
  rw [lg_entry_eq]
  generalize (lg_sl ([.ref a0, .int u1]) ++ List.replicate (2 - (lg_sl ([.ref a0, .int u1])).length) Slot.unset).toArray = ls at hl ⊢
  have hl : lv_has ls 2 [(0, .ref a0), (1, .int u1)] := hl
  unfold f_X9_append at hm
  refine lv_aload_n hx hb dX9_append_0 rfl (lv_at hl 0 rfl) ?_
  refine lv_aload_n hx hb dX9_append_1 rfl (lv_at hl 0 rfl) ?_
  refine rg_10_10 hx hb hts hown hK hW h0 tw_7_79 dX9_append_2 ?_
  refine lv_bipush (v := 60) hx hb dX9_append_5 (by decide) ?_
  refine lv_icmp_ne (tgt := 14) hx hb dX9_append_7 (by decide) (fun c_11 => ?_) (fun c_11 => ?_)
  · replace hm := rc_f hm c_11
    refine lv_iconst (v := 0) hx hb dX9_append_14 (by decide) ?_
    refine rp_10_0 hx hb hts hown hK hW hS h0 tw_7_69 dX9_append_15 (fun σ_1 H locs eσ hW hS => ?_)
    replace hm := rc_lt_at hm eσ
    clear eσ
    refine lv_aload_n hx hb dX9_append_18 rfl (lv_at hl 0 rfl) ?_
    refine rg_10_0 hx hb hts hown hK hW h0 tw_7_69 dX9_append_19 ?_
    refine lv_if_le (tgt := 27) hx hb dX9_append_22 (by decide) (fun c_5 => ?_) (fun c_5 => ?_)
    · replace hm := rc_t hm c_5
      refine lv_aload_n hx hb dX9_append_27 rfl (lv_at hl 0 rfl) ?_
      refine rg_10_7 hx hb hts hown hK hW h0 tw_7_76 dX9_append_28 ?_
      refine lv_aload_n hx hb dX9_append_31 rfl (lv_at hl 0 rfl) ?_
      refine rg_10_10 hx hb hts hown hK hW h0 tw_7_79 dX9_append_32 ?_
      refine lv_iload_n hx hb dX9_append_35 rfl (lv_at hl 1 rfl) ?_
      have hi_2 := (rc_ix hm).1
      replace hm := (rc_ix hm).2
      refine rc_iastj (j := (σ_1 a0 10).toNatClampNeg) hx hb hK hW hS (rc_t_10_7 hT h0) (by decide) (fun _ => rfl) hi_2 rfl dX9_append_36 (fun σ_3 H locs eσ hW hS => ?_)
      replace hm := rc_lt_at hm eσ
      clear eσ
      refine lv_aload_n hx hb dX9_append_37 rfl (lv_at hl 0 rfl) ?_
      refine lv_dup hx hb dX9_append_38 rfl ?_
      refine rg_10_10 hx hb hts hown hK hW h0 tw_7_79 dX9_append_39 ?_
      refine lv_iconst (v := 1) hx hb dX9_append_42 (by decide) ?_
      refine lv_iadd hx hb dX9_append_43 ?_
      refine rp_10_10 hx hb hts hown hK hW hS h0 tw_7_79 dX9_append_44 (fun σ_4 H locs eσ hW hS => ?_)
      replace hm := rc_lt_at hm eσ
      clear eσ
      refine lv_aload_n hx hb dX9_append_47 rfl (lv_at hl 0 rfl) ?_
      refine rg_10_10 hx hb hts hown hK hW h0 tw_7_79 dX9_append_48 ?_
      exact rc_eiret hx hb hr hlocks hW hS (Nat.le_of_ble_eq_true rfl) (Nat.le_of_ble_eq_true rfl) hm dX9_append_51
    · replace hm := rc_f hm c_5
      refine lv_iconst (v := 0) hx hb dX9_append_25 (by decide) ?_
      exact rc_eiret hx hb hr hlocks hW hS (Nat.le_of_ble_eq_true rfl) (Nat.le_of_ble_eq_true rfl) hm dX9_append_26
  · replace hm := rc_t hm c_11
    refine lv_iconst (v := 1) hx hb dX9_append_10 (by decide) ?_
    refine lv_goto (tgt := 15) hx hb dX9_append_11 (by decide) ?_
    refine rp_10_0 hx hb hts hown hK hW hS h0 tw_7_69 dX9_append_15 (fun σ_6 H locs eσ hW hS => ?_)
    replace hm := rc_lt_at hm eσ
    clear eσ
    refine lv_aload_n hx hb dX9_append_18 rfl (lv_at hl 0 rfl) ?_
    refine rg_10_0 hx hb hts hown hK hW h0 tw_7_69 dX9_append_19 ?_
    refine lv_if_le (tgt := 27) hx hb dX9_append_22 (by decide) (fun c_10 => ?_) (fun c_10 => ?_)
    · replace hm := rc_t hm c_10
      refine lv_aload_n hx hb dX9_append_27 rfl (lv_at hl 0 rfl) ?_
      refine rg_10_7 hx hb hts hown hK hW h0 tw_7_76 dX9_append_28 ?_
      refine lv_aload_n hx hb dX9_append_31 rfl (lv_at hl 0 rfl) ?_
      refine rg_10_10 hx hb hts hown hK hW h0 tw_7_79 dX9_append_32 ?_
      refine lv_iload_n hx hb dX9_append_35 rfl (lv_at hl 1 rfl) ?_
      have hi_7 := (rc_ix hm).1
      replace hm := (rc_ix hm).2
      refine rc_iastj (j := (σ_6 a0 10).toNatClampNeg) hx hb hK hW hS (rc_t_10_7 hT h0) (by decide) (fun _ => rfl) hi_7 rfl dX9_append_36 (fun σ_8 H locs eσ hW hS => ?_)
      replace hm := rc_lt_at hm eσ
      clear eσ
      refine lv_aload_n hx hb dX9_append_37 rfl (lv_at hl 0 rfl) ?_
      refine lv_dup hx hb dX9_append_38 rfl ?_
      refine rg_10_10 hx hb hts hown hK hW h0 tw_7_79 dX9_append_39 ?_
      refine lv_iconst (v := 1) hx hb dX9_append_42 (by decide) ?_
      refine lv_iadd hx hb dX9_append_43 ?_
      refine rp_10_10 hx hb hts hown hK hW hS h0 tw_7_79 dX9_append_44 (fun σ_9 H locs eσ hW hS => ?_)
      replace hm := rc_lt_at hm eσ
      clear eσ
      refine lv_aload_n hx hb dX9_append_47 rfl (lv_at hl 0 rfl) ?_
      refine rg_10_10 hx hb hts hown hK hW h0 tw_7_79 dX9_append_48 ?_
      exact rc_eiret hx hb hr hlocks hW hS (Nat.le_of_ble_eq_true rfl) (Nat.le_of_ble_eq_true rfl) hm dX9_append_51
    · replace hm := rc_f hm c_10
      refine lv_iconst (v := 0) hx hb dX9_append_25 (by decide) ?_
      exact rc_eiret hx hb hr hlocks hW hS (Nat.le_of_ble_eq_true rfl) (Nat.le_of_ble_eq_true rfl) hm dX9_append_26
set_option maxHeartbeats 4000000 in
set_option maxRecDepth 100000 in
theorem k_X9_here (l : Launch) {Y : rc_Y} {sh : Nat → Nat} {rf : rc_F} (hT : rc_T Y sh rf) (a0 : Nat) (h0 : sh a0 = 10) (sz : Nat) (σ σ' : rc_S) (r : Int32) (hm : f_X9_here rf a0 σ = some (r, σ')) : Met l yX9_here (Cond.code yX9_here cX9_here 1 (some .int) :: rc_big) ({ frames := 0, cells := 0, slots := 0, locals := 0 } : Room) (rc_P Y sh rf σ sz [.ref a0]) (va_Qi (fun (r' : Int32) (_ : Unit) => r' = r) (fun _ t => rc_W Y sh rf σ' t.heap) (rc_A sh sz)) 0 0 (rc_A sh sz) := by
  refine Met.ofW (cc := cX9_here) (maxL := 1) (ret := (some .int)) (by decide +kernel) rfl ?_
  intro p e s m args below meth c s₁ B hml hv
  obtain ⟨rfl, hsz, hW, hK, hE⟩ := hv
  have hx := B.exec
  have hb := B.bytes
  have hr := B.returns
  have hts : ∀ w ∈ rc_big, w.before _ s = true := fun w h => atoms_spec (ws := Cond.code yX9_here cX9_here 1 (some .int) :: rc_big) B.pre w (List.mem_cons_of_mem _ h)
  have hown : s.vm.findClass RX9 = some m.cls := findClass_of_methodNamed B.named
  have hlocks := B.notSynchronized
  clear B
  subst hsz
  have hS : va_S (rc_A sh s.heap.size) s.heap s.heap [] := va_S.rf
  have hl := lv_entry ([.ref a0]) (n := 1) (Nat.le_of_ble_eq_true rfl)
  rw [lg_entry_eq]
  generalize (lg_sl ([.ref a0]) ++ List.replicate (1 - (lg_sl ([.ref a0])).length) Slot.unset).toArray = ls at hl ⊢
  have hl : lv_has ls 1 [(0, .ref a0)] := hl
  unfold f_X9_here at hm
  refine lv_aload_n hx hb dX9_here_0 rfl (lv_at hl 0 rfl) ?_
  refine rg_10_18 hx hb hts hown hK hW h0 tw_7_87 dX9_here_1 ?_
  refine lv_aload_n hx hb dX9_here_4 rfl (lv_at hl 0 rfl) ?_
  refine rg_10_19 hx hb hts hown hK hW h0 tw_7_88 dX9_here_5 ?_
  refine lv_icmp_ge (tgt := 23) hx hb dX9_here_8 (by decide) (fun c_2 => ?_) (fun c_2 => ?_)
  · replace hm := rc_t hm c_2
    refine lv_iconst (v := (-1)) hx hb dX9_here_23 (by decide) ?_
    exact rc_eiret hx hb hr hlocks hW hS (Nat.le_of_ble_eq_true rfl) (Nat.le_of_ble_eq_true rfl) hm dX9_here_24
  · replace hm := rc_f hm c_2
    refine lv_aload_n hx hb dX9_here_11 rfl (lv_at hl 0 rfl) ?_
    refine rg_10_7 hx hb hts hown hK hW h0 tw_7_76 dX9_here_12 ?_
    refine lv_aload_n hx hb dX9_here_15 rfl (lv_at hl 0 rfl) ?_
    refine rg_10_18 hx hb hts hown hK hW h0 tw_7_87 dX9_here_16 ?_
    have hi_1 := (rc_ix hm).1
    replace hm := (rc_ix hm).2
    refine rc_ialdj (j := (σ a0 18).toNatClampNeg) hx hb hK hW (rc_t_10_7 hT h0) (by decide) rfl hi_1 rfl dX9_here_19 ?_
    refine lv_goto (tgt := 24) hx hb dX9_here_20 (by decide) ?_
    exact rc_eiret hx hb hr hlocks hW hS (Nat.le_of_ble_eq_true rfl) (Nat.le_of_ble_eq_true rfl) hm dX9_here_24
