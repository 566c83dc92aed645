def f_X9_storms_31 (rf : rc_F) (a0 : Nat) (v1 : Int32) (v2 : Int32) (K : Int32 → Int32 → rc_S → Option (Int32 × rc_S)) : Nat → Int32 → Int32 → rc_S → Option (Int32 × rc_S)
  | 0, _, _, _ => none
  | n + 1, v3, v4, σ =>
    if (4 : Int32) ≤ v4 then
      K v3 v4 σ
    else
      rc_bd (f_X9_caught rf a0 v4 v1 σ) fun w_4 σ_4 =>
      rc_lt (v3 + w_4) fun v3_5 =>
      rc_bd (f_X9_fills rf a0 v4 v1 σ_4) fun _ σ_6 =>
      rc_lt (v4 + 1) fun v4_7 =>
      f_X9_storms_31 rf a0 v1 v2 K n v3_5 v4_7 σ_6
def f_X9_storms (rf : rc_F) (a0 : Nat) (u1 : Int32) (u2 : Int32) (σ : rc_S) : Option (Int32 × rc_S) :=
  rc_bd (f_X9_in rf u1 (1 : Int32) (9 : Int32) σ) fun w_1 σ_1 =>
  if w_1 = 0 then
    rc_bd (f_X9_refused rf a0 (1 : Int32) (0 : Int32) σ_1) fun w_2 σ_2 =>
    some (w_2, σ_2)
  else
    rc_bd (f_X9_in rf u2 (0 : Int32) (3 : Int32) σ_1) fun w_3 σ_3 =>
    if w_3 = 0 then
      rc_bd (f_X9_refused rf a0 (1 : Int32) (0 : Int32) σ_3) fun w_26 σ_26 =>
      some (w_26, σ_26)
    else
      f_X9_storms_31 rf a0 u1 u2 (fun v3_9 v4_10 σ_11 =>
        rc_lt ((71 : Int32) + ((3 : Int32) * ((σ_11 (rf a0 1) 4) - (σ_11 (rf a0 1) 4) / (12 : Int32) * (12 : Int32)))) fun v4_12 =>
        rc_ck (rc_in v4_12 107) <|
        rc_lt (rc_up σ_11 (rf a0 1) v4_12.toNatClampNeg u1) fun σ_14 =>
        rc_ck (rc_in (v4_12 + (1 : Int32)) 107) <|
        rc_lt (rc_up σ_14 (rf a0 1) (v4_12 + (1 : Int32)).toNatClampNeg (σ_14 (rf a0 1) 3)) fun σ_16 =>
        rc_ck (rc_in (v4_12 + (2 : Int32)) 107) <|
        rc_lt (rc_up σ_16 (rf a0 1) (v4_12 + (2 : Int32)).toNatClampNeg v3_9) fun σ_18 =>
        rc_lt (rc_up σ_18 (rf a0 1) 4 ((σ_18 (rf a0 1) 4) + (1 : Int32))) fun σ_19 =>
        rc_lt (rc_up σ_19 (rf a0 1) 5 ((σ_19 (rf a0 1) 5) + v3_9)) fun σ_20 =>
        if ((σ_20 (rf a0 1) 2) + ((2 : Int32) * u2)) ≤ (9 : Int32) then
          rc_lt (rc_up σ_20 (rf a0 1) 2 ((σ_20 (rf a0 1) 2) + ((2 : Int32) * u2))) fun σ_21 =>
          rc_bd (f_X9_done rf a0 v3_9 σ_21) fun w_22 σ_22 =>
          some (w_22, σ_22)
        else
          rc_lt (rc_up σ_20 (rf a0 1) 2 (9 : Int32)) fun σ_23 =>
          rc_bd (f_X9_done rf a0 v3_9 σ_23) fun w_24 σ_24 =>
          some (w_24, σ_24)
      ) rc_fu (0 : Int32) (0 : Int32) σ_3
def f_X9_places (rf : rc_F) (a0 : Nat) (u1 : Int32) (σ : rc_S) : Option (Int32 × rc_S) :=
  rc_bd (f_X9_in rf u1 (0 : Int32) (3 : Int32) σ) fun w_1 σ_1 =>
  if w_1 = 0 then
    rc_bd (f_X9_refused rf a0 (1 : Int32) (0 : Int32) σ_1) fun w_9 σ_9 =>
    some (w_9, σ_9)
  else
    rc_lt (σ_1 (rf a0 1) 0) fun v2_2 =>
    if v2_2 = (8 : Int32) then
      rc_bd (f_X9_refused rf a0 (2 : Int32) (8 : Int32) σ_1) fun w_7 σ_7 =>
      some (w_7, σ_7)
    else
      rc_bd (f_X9_sets rf a0 v2_2 (0 : Int32) u1 σ_1) fun _ σ_3 =>
      rc_bd (f_X9_empties rf a0 v2_2 σ_3) fun _ σ_4 =>
      rc_lt (rc_up σ_4 (rf a0 1) 0 (v2_2 + (1 : Int32))) fun σ_5 =>
      rc_bd (f_X9_done rf a0 v2_2 σ_5) fun w_6 σ_6 =>
      some (w_6, σ_6)
def f_X9_takes_55 (rf : rc_F) (a0 : Nat) (v2 : Int32) (K : Int32 → rc_S → Option (Int32 × rc_S)) : Nat → Int32 → rc_S → Option (Int32 × rc_S)
  | 0, _, _ => none
  | n + 1, v3, σ =>
    if ((6 : Int32) * v2) ≤ v3 then
      K v3 σ
    else
      rc_ck (rc_in (((15 : Int32) + v3) + (6 : Int32)) 107) <|
      rc_ck (rc_in ((15 : Int32) + v3) 107) <|
      rc_lt (rc_up σ (rf a0 1) ((15 : Int32) + v3).toNatClampNeg (σ (rf a0 1) (((15 : Int32) + v3) + (6 : Int32)).toNatClampNeg)) fun σ_7 =>
      rc_lt (v3 + 1) fun v3_8 =>
      f_X9_takes_55 rf a0 v2 K n v3_8 σ_7
def f_X9_takes_92 (rf : rc_F) (a0 : Nat) (v2 : Int32) (K : Int32 → rc_S → Option (Int32 × rc_S)) : Nat → Int32 → rc_S → Option (Int32 × rc_S)
  | 0, _, _ => none
  | n + 1, v3, σ =>
    if (6 : Int32) ≤ v3 then
      K v3 σ
    else
      rc_ck (rc_in (((15 : Int32) + ((6 : Int32) * v2)) + v3) 107) <|
      rc_lt (rc_up σ (rf a0 1) (((15 : Int32) + ((6 : Int32) * v2)) + v3).toNatClampNeg (0 : Int32)) fun σ_13 =>
      rc_lt (v3 + 1) fun v3_14 =>
      f_X9_takes_92 rf a0 v2 K n v3_14 σ_13
def f_X9_takes (rf : rc_F) (a0 : Nat) (u1 : Int32) (σ : rc_S) : Option (Int32 × rc_S) :=
  rc_bd (f_X9_isBarrel rf a0 u1 σ) fun w_1 σ_1 =>
  if w_1 = 0 then
    rc_bd (f_X9_refused rf a0 (3 : Int32) (σ_1 (rf a0 1) 0) σ_1) fun w_23 σ_23 =>
    some (w_23, σ_23)
  else
    rc_bd (f_X9_of rf a0 u1 (1 : Int32) σ_1) fun w_2 σ_2 =>
    if w_2 ≤ 0 then
      rc_lt ((σ_2 (rf a0 1) 0) - (1 : Int32)) fun v2_3 =>
      rc_lt ((6 : Int32) * u1) fun v3_4 =>
      f_X9_takes_55 rf a0 v2_3 (fun v3_10 σ_11 =>
        f_X9_takes_92 rf a0 v2_3 (fun v3_16 σ_17 =>
          rc_lt (rc_up σ_17 (rf a0 1) 0 v2_3) fun σ_18 =>
          rc_bd (f_X9_done rf a0 v2_3 σ_18) fun w_19 σ_19 =>
          some (w_19, σ_19)
        ) rc_fu (0 : Int32) σ_11
      ) rc_fu v3_4 σ_2
    else
      rc_bd (f_X9_of rf a0 u1 (1 : Int32) σ_2) fun w_20 σ_20 =>
      rc_bd (f_X9_refused rf a0 (5 : Int32) w_20 σ_20) fun w_21 σ_21 =>
      some (w_21, σ_21)
def f_X9_pours_175 (rf : rc_F) (a0 : Nat) (v1 : Int32) (v2 : Int32) (v3 : Int32) (v5 : Int32) (K : Int32 → rc_S → Option (Int32 × rc_S)) : Nat → Int32 → rc_S → Option (Int32 × rc_S)
  | 0, _, _ => none
  | n + 1, v6, σ =>
    if (5 : Int32) < v6 then
      K v6 σ
    else
      rc_bd (f_X9_of rf a0 v1 v6 σ) fun w_26 σ_26 =>
      rc_bd (f_X9_sets rf a0 v2 v6 w_26 σ_26) fun _ σ_27 =>
      rc_lt (v6 + 1) fun v6_28 =>
      f_X9_pours_175 rf a0 v1 v2 v3 v5 K n v6_28 σ_27
def f_X9_pours (rf : rc_F) (a0 : Nat) (u1 : Int32) (u2 : Int32) (u3 : Int32) (σ : rc_S) : Option (Int32 × rc_S) :=
  rc_bd (f_X9_isBarrel rf a0 u1 σ) fun w_1 σ_1 =>
  if w_1 = 0 then
    rc_bd (f_X9_refused rf a0 (3 : Int32) (σ_1 (rf a0 1) 0) σ_1) fun w_2 σ_2 =>
    some (w_2, σ_2)
  else
    rc_bd (f_X9_isBarrel rf a0 u2 σ_1) fun w_3 σ_3 =>
    if w_3 = 0 then
      rc_bd (f_X9_refused rf a0 (3 : Int32) (σ_3 (rf a0 1) 0) σ_3) fun w_50 σ_50 =>
      some (w_50, σ_50)
    else
      if u1 = u2 then
        rc_bd (f_X9_refused rf a0 (8 : Int32) u1 σ_3) fun w_48 σ_48 =>
        some (w_48, σ_48)
      else
        rc_bd (f_X9_in rf u3 (1 : Int32) (20 : Int32) σ_3) fun w_4 σ_4 =>
        if w_4 = 0 then
          rc_bd (f_X9_refused rf a0 (1 : Int32) (0 : Int32) σ_4) fun w_46 σ_46 =>
          some (w_46, σ_46)
        else
          rc_bd (f_X9_of rf a0 u1 (1 : Int32) σ_4) fun w_5 σ_5 =>
          if u3 ≤ w_5 then
            rc_bd (f_X9_of rf a0 u2 (1 : Int32) σ_5) fun w_6 σ_6 =>
            if w_6 = 0 then
              rc_bd (f_X9_of rf a0 u2 (1 : Int32) σ_6) fun w_24 σ_24 =>
              if u3 ≤ ((20 : Int32) - w_24) then
                rc_bd (f_X9_hailIn rf a0 u1 u3 σ_24) fun w_25 σ_25 =>
                f_X9_pours_175 rf a0 u1 u2 u3 w_25 (fun v6_30 σ_31 =>
                  rc_bd (f_X9_of rf a0 u2 (1 : Int32) σ_31) fun w_32 σ_32 =>
                  rc_bd (f_X9_sets rf a0 u2 (1 : Int32) (w_32 + u3) σ_32) fun _ σ_33 =>
                  rc_bd (f_X9_of rf a0 u2 (2 : Int32) σ_33) fun w_34 σ_34 =>
                  rc_bd (f_X9_sets rf a0 u2 (2 : Int32) (w_34 + w_25) σ_34) fun _ σ_35 =>
                  rc_bd (f_X9_goes rf a0 u1 u3 w_25 σ_35) fun _ σ_36 =>
                  rc_bd (f_X9_of rf a0 u2 (1 : Int32) σ_36) fun w_37 σ_37 =>
                  rc_bd (f_X9_done rf a0 w_37 σ_37) fun w_38 σ_38 =>
                  some (w_38, σ_38)
                ) rc_fu (3 : Int32) σ_25
              else
                rc_bd (f_X9_of rf a0 u2 (1 : Int32) σ_24) fun w_39 σ_39 =>
                rc_bd (f_X9_refused rf a0 (7 : Int32) ((20 : Int32) - w_39) σ_39) fun w_40 σ_40 =>
                some (w_40, σ_40)
            else
              rc_bd (f_X9_of rf a0 u2 (3 : Int32) σ_6) fun w_7 σ_7 =>
              rc_bd (f_X9_of rf a0 u1 (3 : Int32) σ_7) fun w_8 σ_8 =>
              if w_7 = w_8 then
                rc_bd (f_X9_of rf a0 u2 (1 : Int32) σ_8) fun w_9 σ_9 =>
                if u3 ≤ ((20 : Int32) - w_9) then
                  rc_bd (f_X9_hailIn rf a0 u1 u3 σ_9) fun w_10 σ_10 =>
                  rc_bd (f_X9_of rf a0 u2 (1 : Int32) σ_10) fun w_11 σ_11 =>
                  rc_bd (f_X9_sets rf a0 u2 (1 : Int32) (w_11 + u3) σ_11) fun _ σ_12 =>
                  rc_bd (f_X9_of rf a0 u2 (2 : Int32) σ_12) fun w_13 σ_13 =>
                  rc_bd (f_X9_sets rf a0 u2 (2 : Int32) (w_13 + w_10) σ_13) fun _ σ_14 =>
                  rc_bd (f_X9_goes rf a0 u1 u3 w_10 σ_14) fun _ σ_15 =>
                  rc_bd (f_X9_of rf a0 u2 (1 : Int32) σ_15) fun w_16 σ_16 =>
                  rc_bd (f_X9_done rf a0 w_16 σ_16) fun w_17 σ_17 =>
                  some (w_17, σ_17)
                else
                  rc_bd (f_X9_of rf a0 u2 (1 : Int32) σ_9) fun w_18 σ_18 =>
                  rc_bd (f_X9_refused rf a0 (7 : Int32) ((20 : Int32) - w_18) σ_18) fun w_19 σ_19 =>
                  some (w_19, σ_19)
              else
                rc_bd (f_X9_of rf a0 u2 (3 : Int32) σ_8) fun w_21 σ_21 =>
                rc_bd (f_X9_refused rf a0 (9 : Int32) w_21 σ_21) fun w_22 σ_22 =>
                some (w_22, σ_22)
          else
            rc_bd (f_X9_of rf a0 u1 (1 : Int32) σ_5) fun w_43 σ_43 =>
            rc_bd (f_X9_refused rf a0 (6 : Int32) w_43 σ_43) fun w_44 σ_44 =>
            some (w_44, σ_44)
def f_X9_adulterates (rf : rc_F) (a0 : Nat) (u1 : Int32) (u2 : Int32) (σ : rc_S) : Option (Int32 × rc_S) :=
  rc_bd (f_X9_isBarrel rf a0 u1 σ) fun w_1 σ_1 =>
  if w_1 = 0 then
    rc_bd (f_X9_refused rf a0 (3 : Int32) (σ_1 (rf a0 1) 0) σ_1) fun w_22 σ_22 =>
    some (w_22, σ_22)
  else
    rc_bd (f_X9_in rf u2 (1 : Int32) (9 : Int32) σ_1) fun w_2 σ_2 =>
    if w_2 = 0 then
      rc_bd (f_X9_refused rf a0 (1 : Int32) (0 : Int32) σ_2) fun w_20 σ_20 =>
      some (w_20, σ_20)
    else
      rc_bd (f_X9_of rf a0 u1 (1 : Int32) σ_2) fun w_3 σ_3 =>
      if w_3 = 0 then
        rc_bd (f_X9_refused rf a0 (6 : Int32) (0 : Int32) σ_3) fun w_18 σ_18 =>
        some (w_18, σ_18)
      else
        if u2 ≤ (σ_3 (rf a0 1) 2) then
          rc_bd (f_X9_of rf a0 u1 (1 : Int32) σ_3) fun w_4 σ_4 =>
          if u2 ≤ ((20 : Int32) - w_4) then
            rc_lt (rc_up σ_4 (rf a0 1) 2 ((σ_4 (rf a0 1) 2) - u2)) fun σ_5 =>
            rc_lt (rc_up σ_5 (rf a0 1) 6 ((σ_5 (rf a0 1) 6) + u2)) fun σ_6 =>
            rc_bd (f_X9_of rf a0 u1 (1 : Int32) σ_6) fun w_7 σ_7 =>
            rc_bd (f_X9_sets rf a0 u1 (1 : Int32) (w_7 + u2) σ_7) fun _ σ_8 =>
            rc_bd (f_X9_of rf a0 u1 (2 : Int32) σ_8) fun w_9 σ_9 =>
            rc_bd (f_X9_sets rf a0 u1 (2 : Int32) (w_9 + u2) σ_9) fun _ σ_10 =>
            rc_bd (f_X9_part rf a0 u1 σ_10) fun w_11 σ_11 =>
            rc_bd (f_X9_done rf a0 w_11 σ_11) fun w_12 σ_12 =>
            some (w_12, σ_12)
          else
            rc_bd (f_X9_of rf a0 u1 (1 : Int32) σ_4) fun w_13 σ_13 =>
            rc_bd (f_X9_refused rf a0 (7 : Int32) ((20 : Int32) - w_13) σ_13) fun w_14 σ_14 =>
            some (w_14, σ_14)
        else
          rc_bd (f_X9_refused rf a0 (10 : Int32) (σ_3 (rf a0 1) 2) σ_3) fun w_16 σ_16 =>
          some (w_16, σ_16)
def f_X9_joins (rf : rc_F) (a0 : Nat) (u1 : Int32) (u2 : Int32) (σ : rc_S) : Option (Int32 × rc_S) :=
  rc_bd (f_X9_in rf u1 (0 : Int32) (9 : Int32) σ) fun w_1 σ_1 =>
  if w_1 = 0 then
    rc_bd (f_X9_refused rf a0 (1 : Int32) (0 : Int32) σ_1) fun w_11 σ_11 =>
    some (w_11, σ_11)
  else
    rc_lt (σ_1 (rf a0 1) 1) fun v3_2 =>
    if v3_2 = (4 : Int32) then
      rc_bd (f_X9_refused rf a0 (2 : Int32) (4 : Int32) σ_1) fun w_9 σ_9 =>
      some (w_9, σ_9)
    else
      rc_ck (rc_in ((63 : Int32) + ((2 : Int32) * v3_2)) 107) <|
      rc_lt (rc_up σ_1 (rf a0 1) ((63 : Int32) + ((2 : Int32) * v3_2)).toNatClampNeg u1) fun σ_4 =>
      rc_ck (rc_in (((63 : Int32) + ((2 : Int32) * v3_2)) + (1 : Int32)) 107) <|
      rc_lt (rc_up σ_4 (rf a0 1) (((63 : Int32) + ((2 : Int32) * v3_2)) + (1 : Int32)).toNatClampNeg u2) fun σ_6 =>
      rc_lt (rc_up σ_6 (rf a0 1) 1 (v3_2 + (1 : Int32))) fun σ_7 =>
      rc_bd (f_X9_done rf a0 v3_2 σ_7) fun w_8 σ_8 =>
      some (w_8, σ_8)
set_option maxHeartbeats 4000000 in
set_option maxRecDepth 100000 in
theorem k_X9_storms (l : Launch) {Y : rc_Y} {sh : Nat → Nat} {rf : rc_F} (hT : rc_T Y sh rf) (a0 : Nat) (u1 : Int32) (u2 : Int32) (h0 : sh a0 = 10) (sz : Nat) (σ σ' : rc_S) (r : Int32) (hm : f_X9_storms rf a0 u1 u2 σ = some (r, σ')) : Met l yX9_storms (Cond.code yX9_storms cX9_storms 5 (some .int) :: rc_big) ({ frames := 2, cells := 0, slots := 0, locals := 48 } : Room) (rc_P Y sh rf σ sz [.ref a0, .int u1, .int u2]) (va_Qi (fun (r' : Int32) (_ : Unit) => r' = r) (fun _ t => rc_W Y sh rf σ' t.heap) (rc_A sh sz)) 0 0 (rc_A sh sz) := by
  refine Met.ofW (cc := cX9_storms) (maxL := 5) (ret := (some .int)) (by decide +kernel) rfl ?_
  intro p e s m args below meth c s₁ B hml hv
  obtain ⟨rfl, hsz, hW, hK, hE⟩ := hv
  have hx := B.exec
  have hb := B.bytes
  have hr := B.returns
  have hts : ∀ w ∈ rc_big, w.before _ s = true := fun w h => atoms_spec (ws := Cond.code yX9_storms cX9_storms 5 (some .int) :: rc_big) B.pre w (List.mem_cons_of_mem _ h)
  have hown : s.vm.findClass RX9 = some m.cls := findClass_of_methodNamed B.named
  have hlocks := B.notSynchronized
  clear B
  subst hsz
  have hS : va_S (rc_A sh s.heap.size) s.heap s.heap [] := va_S.rf
  have hl := lv_entry ([.ref a0, .int u1, .int u2]) (n := 5) (Nat.le_of_ble_eq_true rfl)
  rw [lg_entry_eq]
  generalize (lg_sl ([.ref a0, .int u1, .int u2]) ++ List.replicate (5 - (lg_sl ([.ref a0, .int u1, .int u2])).length) Slot.unset).toArray = ls at hl ⊢
  have hl : lv_has ls 5 [(0, .ref a0), (1, .int u1), (2, .int u2)] := hl
  have lp_31 : ∀ (v1 : Int32) (v2 : Int32) (K : Int32 → Int32 → rc_S → Option (Int32 × rc_S)) (hKK : ∀ (v3 v4 : Int32) (σ : rc_S) (H : Heap) (locs : List Loc) (ls : Array Slot), K v3 v4 σ = some (r, σ') → rc_W Y sh rf σ H → va_S (rc_A sh s.heap.size) s.heap H locs → lv_has ls 5 [(0, .ref a0), (1, .int v1), (2, .int v2), (3, .int v3)] → W p l e (headSpec (Cond.code yX9_storms cX9_storms 5 (some .int) :: rc_big) ({ frames := 2, cells := 0, slots := 0, locals := 48 } : Room)).room s m (([.ref a0, .int u1, .int u2] : List Value).toArray) below meth c H locs (0 + 0 + 0) (0 + 0 + 0) (MQ below (va_Qi (fun (r' : Int32) (_ : Unit) => r' = r) (fun _ t => rc_W Y sh rf σ' t.heap) (rc_A sh s.heap.size)) ([.ref a0, .int u1, .int u2] : List Value).toArray s 0 0 (rc_A sh s.heap.size)) (F0 m 60 ls [])) (n : Nat) (v3 v4 : Int32) (σ : rc_S) (H : Heap) (locs : List Loc) (ls : Array Slot), f_X9_storms_31 rf a0 v1 v2 K n v3 v4 σ = some (r, σ') → rc_W Y sh rf σ H → va_S (rc_A sh s.heap.size) s.heap H locs → lv_has ls 5 [(0, .ref a0), (1, .int v1), (2, .int v2), (3, .int v3), (4, .int v4)] → W p l e (headSpec (Cond.code yX9_storms cX9_storms 5 (some .int) :: rc_big) ({ frames := 2, cells := 0, slots := 0, locals := 48 } : Room)).room s m (([.ref a0, .int u1, .int u2] : List Value).toArray) below meth c H locs (0 + 0 + 0) (0 + 0 + 0) (MQ below (va_Qi (fun (r' : Int32) (_ : Unit) => r' = r) (fun _ t => rc_W Y sh rf σ' t.heap) (rc_A sh s.heap.size)) ([.ref a0, .int u1, .int u2] : List Value).toArray s 0 0 (rc_A sh s.heap.size)) (F0 m 31 ls []) := by
    intro v1 v2 K hKK n
    induction n with
    | zero =>
      intro v3 v4 σ H locs ls hm
      rw [f_X9_storms_31] at hm
      cases hm
    | succ n ih =>
      intro v3 v4 σ H locs ls hm hW hS hl
      rw [f_X9_storms_31] at hm
      refine lv_iload hx hb dX9_storms_31 (lv_at hl 4 rfl) ?_
      refine lv_iconst (v := 4) hx hb dX9_storms_33 (by decide) ?_
      refine lv_icmp_ge (tgt := 60) hx hb dX9_storms_34 (by decide) (fun c_8 => ?_) (fun c_8 => ?_)
      · replace hm := rc_t hm c_8
        exact hKK v3 v4 σ _ _ _ hm hW hS (lv_sub hl [0, 1, 2, 3] rfl)
      · replace hm := rc_f hm c_8
        refine lv_iload_n hx hb dX9_storms_37 rfl (lv_at hl 3 rfl) ?_
        refine lv_aload_n hx hb dX9_storms_38 rfl (lv_at hl 0 rfl) ?_
        refine lv_iload hx hb dX9_storms_39 (lv_at hl 4 rfl) ?_
        refine lv_iload_n hx hb dX9_storms_41 rfl (lv_at hl 1 rfl) ?_
        obtain ⟨w_4, σ_4, hc_4, hm0⟩ := rc_bd_inv hm
        clear hm
        refine rc_ci hS (va_runV (As := [.int v4, .int v1]) (rest := [.int v3]) ⟨hx, hb, hml, hown, hts⟩ (k_X9_caught l hT a0 v4 v1 h0 H.size _ _ _ hc_4) (cwV 2 hts (rc_gV tw_7_159 tw_7_161 tw_p_19 tw_1_14 tw_7_162) rfl rfl rfl (by decide +kernel) ⟨Nat.le_of_ble_eq_true rfl, Nat.le_of_ble_eq_true rfl⟩) (rc_preV hT hW hK hE hS h0 (by decide) rfl (q := (RX9, TX9, 22)) rfl [.int v4, .int v1]) rfl rfl hl.1 rfl (lv_room (Nat.le_of_ble_eq_true rfl)) dX9_storms_42 ⟨Nat.le_of_ble_eq_true rfl, Nat.le_of_ble_eq_true rfl⟩) (fun H locs hW hS => ?_)
        have hm := hm0
        clear hm0 hc_4
        refine lv_iadd hx hb dX9_storms_45 ?_
        refine lv_topi (fun v3_5 ev => ?_)
        replace hm := rc_lt_at hm ev
        clear ev
        refine lv_istore_n (lv' := [(3, .int v3_5), (0, .ref a0), (1, .int v1), (2, .int v2), (4, .int v4)]) hx hb dX9_storms_46 rfl hl (by decide) rfl (fun ls hl => ?_)
        refine lv_aload_n hx hb dX9_storms_47 rfl (lv_at hl 1 rfl) ?_
        refine lv_iload hx hb dX9_storms_48 (lv_at hl 4 rfl) ?_
        refine lv_iload_n hx hb dX9_storms_50 rfl (lv_at hl 2 rfl) ?_
        obtain ⟨w_6, σ_6, hc_6, hm0⟩ := rc_bd_inv hm
        clear hm
        refine rc_cv hS (va_runV (As := [.int v4, .int v1]) (rest := []) ⟨hx, hb, hml, hown, hts⟩ (k_X9_fills l hT a0 v4 v1 h0 H.size _ _ _ hc_6) (cwV 2 hts (rc_gV tw_7_167 tw_7_169 tw_p_21 tw_1_14 tw_7_170) rfl rfl rfl (by decide +kernel) ⟨Nat.le_of_ble_eq_true rfl, Nat.le_of_ble_eq_true rfl⟩) (rc_preV hT hW hK hE hS h0 (by decide) rfl (q := (RX9, TX9, 22)) rfl [.int v4, .int v1]) rfl rfl hl.1 rfl (lv_room (Nat.le_of_ble_eq_true rfl)) dX9_storms_51 ⟨Nat.le_of_ble_eq_true rfl, Nat.le_of_ble_eq_true rfl⟩) (fun H locs hW hS => ?_)
        have hm := hm0
        clear hm0 hc_6
        obtain ⟨v4_7, ev⟩ : ∃ y : Int32, y = (v4 + 1) := ⟨_, rfl⟩
        replace hm := rc_lt_at hm ev
        refine lv_iinc (v := v4_7) (lv' := [(4, .int v4_7), (3, .int v3_5), (0, .ref a0), (1, .int v1), (2, .int v2)]) hx hb dX9_storms_54 hl (k := 4) rfl (by rw [ev]; rfl) (by decide) rfl (fun ls hl => ?_)
        clear ev
        refine lv_goto (tgt := 31) hx hb dX9_storms_57 (by decide) ?_
        exact ih v3_5 v4_7 σ_6 _ _ _ hm hW hS (lv_sub hl [2, 3, 4, 1, 0] rfl)
  unfold f_X9_storms at hm
  refine lv_iload_n hx hb dX9_storms_0 rfl (lv_at hl 1 rfl) ?_
  refine lv_iconst (v := 1) hx hb dX9_storms_1 (by decide) ?_
  refine lv_bipush (v := 9) hx hb dX9_storms_2 (by decide) ?_
  obtain ⟨w_1, σ_1, hc_1, hm0⟩ := rc_bd_inv hm
  clear hm
  refine rc_ci hS (va_runS (As := [.int u1, .int (1 : Int32), .int (9 : Int32)]) (rest := []) ⟨hx, hb, hml, hown, hts⟩ (k_X9_in l hT u1 (1 : Int32) (9 : Int32)  s.heap.size _ _ _ hc_1) (va_cwS 3 hts (rc_gS tw_7_152 tw_7_153 tw_1_14 tw_7_154) rfl rfl rfl (by decide +kernel) ⟨Nat.le_of_ble_eq_true rfl, Nat.le_of_ble_eq_true rfl⟩) (rc_preS hT hW hK hE hS [.int u1, .int (1 : Int32), .int (9 : Int32)]) rfl rfl hl.1 rfl (lv_room (Nat.le_of_ble_eq_true rfl)) dX9_storms_4 ⟨Nat.le_of_ble_eq_true rfl, Nat.le_of_ble_eq_true rfl⟩) (fun H locs hW hS => ?_)
  have hm := hm0
  clear hm0 hc_1
  refine lv_if_eq (tgt := 19) hx hb dX9_storms_7 (by decide) (fun c_28 => ?_) (fun c_28 => ?_)
  · replace hm := rc_t hm c_28
    refine lv_aload_n hx hb dX9_storms_19 rfl (lv_at hl 0 rfl) ?_
    refine lv_iconst (v := 1) hx hb dX9_storms_20 (by decide) ?_
    refine lv_iconst (v := 0) hx hb dX9_storms_21 (by decide) ?_
    obtain ⟨w_2, σ_2, hc_2, hm0⟩ := rc_bd_inv hm
    clear hm
    refine rc_ci hS (va_runV (As := [.int (1 : Int32), .int (0 : Int32)]) (rest := []) ⟨hx, hb, hml, hown, hts⟩ (k_X9_refused l hT a0 (1 : Int32) (0 : Int32) h0 H.size _ _ _ hc_2) (cwV 2 hts (rc_gV tw_7_155 tw_7_157 tw_p_18 tw_1_14 tw_7_158) rfl rfl rfl (by decide +kernel) ⟨Nat.le_of_ble_eq_true rfl, Nat.le_of_ble_eq_true rfl⟩) (rc_preV hT hW hK hE hS h0 (by decide) rfl (q := (RX9, TX9, 22)) rfl [.int (1 : Int32), .int (0 : Int32)]) rfl rfl hl.1 rfl (lv_room (Nat.le_of_ble_eq_true rfl)) dX9_storms_22 ⟨Nat.le_of_ble_eq_true rfl, Nat.le_of_ble_eq_true rfl⟩) (fun H locs hW hS => ?_)
    have hm := hm0
    clear hm0 hc_2
    exact rc_eiret hx hb hr hlocks hW hS (Nat.le_of_ble_eq_true rfl) (Nat.le_of_ble_eq_true rfl) hm dX9_storms_25
  · replace hm := rc_f hm c_28
    refine lv_iload_n hx hb dX9_storms_10 rfl (lv_at hl 2 rfl) ?_
    refine lv_iconst (v := 0) hx hb dX9_storms_11 (by decide) ?_
    refine lv_iconst (v := 3) hx hb dX9_storms_12 (by decide) ?_
    obtain ⟨w_3, σ_3, hc_3, hm0⟩ := rc_bd_inv hm
    clear hm
    refine rc_ci hS (va_runS (As := [.int u2, .int (0 : Int32), .int (3 : Int32)]) (rest := []) ⟨hx, hb, hml, hown, hts⟩ (k_X9_in l hT u2 (0 : Int32) (3 : Int32)  H.size _ _ _ hc_3) (va_cwS 3 hts (rc_gS tw_7_152 tw_7_153 tw_1_14 tw_7_154) rfl rfl rfl (by decide +kernel) ⟨Nat.le_of_ble_eq_true rfl, Nat.le_of_ble_eq_true rfl⟩) (rc_preS hT hW hK hE hS [.int u2, .int (0 : Int32), .int (3 : Int32)]) rfl rfl hl.1 rfl (lv_room (Nat.le_of_ble_eq_true rfl)) dX9_storms_13 ⟨Nat.le_of_ble_eq_true rfl, Nat.le_of_ble_eq_true rfl⟩) (fun H locs hW hS => ?_)
    have hm := hm0
    clear hm0 hc_3
    refine lv_if_ne (tgt := 26) hx hb dX9_storms_16 (by decide) (fun c_27 => ?_) (fun c_27 => ?_)
    · replace hm := rc_f hm c_27
      refine lv_iconst (v := 0) hx hb dX9_storms_26 (by decide) ?_
      refine lv_istore_n (lv' := [(3, .int (0 : Int32)), (0, .ref a0), (1, .int u1), (2, .int u2)]) hx hb dX9_storms_27 rfl hl (by decide) rfl (fun ls hl => ?_)
      refine lv_iconst (v := 0) hx hb dX9_storms_28 (by decide) ?_
      refine lv_istore (lv' := [(4, .int (0 : Int32)), (3, .int (0 : Int32)), (0, .ref a0), (1, .int u1), (2, .int u2)]) hx hb dX9_storms_29 hl (by decide) rfl (fun ls hl => ?_)
      refine lp_31 u1 u2 _ (fun v3_9 v4_10 σ_11 H locs ls hm hW hS hl => ?_) rc_fu (0 : Int32) (0 : Int32) σ_3 _ _ _ hm hW hS (lv_sub hl [2, 3, 4, 1, 0] rfl)
      refine lv_bipush (v := 71) hx hb dX9_storms_60 (by decide) ?_
      refine lv_iconst (v := 3) hx hb dX9_storms_62 (by decide) ?_
      refine lv_aload_n hx hb dX9_storms_63 rfl (lv_at hl 0 rfl) ?_
      refine rg_10_1 hx hb hts hown hK hW h0 tw_7_70 dX9_storms_64 ?_
      refine lv_iconst (v := 4) hx hb dX9_storms_67 (by decide) ?_
      refine rc_ialdj (j := 4) hx hb hK hW (rc_t_10_1 hT h0) (by decide) rfl (rc_inD (by decide)) (by decide) dX9_storms_68 ?_
      refine lv_bipush (v := 12) hx hb dX9_storms_69 (by decide) ?_
      refine lv_irem hx hb dX9_storms_71 (by decide) ?_
      refine lv_imul hx hb dX9_storms_72 ?_
      refine lv_iadd hx hb dX9_storms_73 ?_
      refine lv_topi (fun v4_12 ev => ?_)
      replace hm := rc_lt_at hm ev
      clear ev
      refine lv_istore (lv' := [(4, .int v4_12), (0, .ref a0), (1, .int u1), (2, .int u2), (3, .int v3_9)]) hx hb dX9_storms_74 hl (by decide) rfl (fun ls hl => ?_)
      refine lv_aload_n hx hb dX9_storms_76 rfl (lv_at hl 1 rfl) ?_
      refine rg_10_1 hx hb hts hown hK hW h0 tw_7_70 dX9_storms_77 ?_
      refine lv_iload hx hb dX9_storms_80 (lv_at hl 0 rfl) ?_
      refine lv_iload_n hx hb dX9_storms_82 rfl (lv_at hl 2 rfl) ?_
      have hi_13 := (rc_ix hm).1
      replace hm := (rc_ix hm).2
      refine rc_iastj (j := v4_12.toNatClampNeg) hx hb hK hW hS (rc_t_10_1 hT h0) (by decide) (fun _ => rfl) hi_13 rfl dX9_storms_83 (fun σ_14 H locs eσ hW hS => ?_)
      replace hm := rc_lt_at hm eσ
      clear eσ
      refine lv_aload_n hx hb dX9_storms_84 rfl (lv_at hl 1 rfl) ?_
      refine rg_10_1 hx hb hts hown hK hW h0 tw_7_70 dX9_storms_85 ?_
      refine lv_iload hx hb dX9_storms_88 (lv_at hl 0 rfl) ?_
      refine lv_iconst (v := 1) hx hb dX9_storms_90 (by decide) ?_
      refine lv_iadd hx hb dX9_storms_91 ?_
      refine lv_aload_n hx hb dX9_storms_92 rfl (lv_at hl 1 rfl) ?_
      refine rg_10_1 hx hb hts hown hK hW h0 tw_7_70 dX9_storms_93 ?_
      refine lv_iconst (v := 3) hx hb dX9_storms_96 (by decide) ?_
      refine rc_ialdj (j := 3) hx hb hK hW (rc_t_10_1 hT h0) (by decide) rfl (rc_inD (by decide)) (by decide) dX9_storms_97 ?_
      have hi_15 := (rc_ix hm).1
      replace hm := (rc_ix hm).2
      refine rc_iastj (j := (v4_12 + (1 : Int32)).toNatClampNeg) hx hb hK hW hS (rc_t_10_1 hT h0) (by decide) (fun _ => rfl) hi_15 rfl dX9_storms_98 (fun σ_16 H locs eσ hW hS => ?_)
      replace hm := rc_lt_at hm eσ
      clear eσ
      refine lv_aload_n hx hb dX9_storms_99 rfl (lv_at hl 1 rfl) ?_
      refine rg_10_1 hx hb hts hown hK hW h0 tw_7_70 dX9_storms_100 ?_
      refine lv_iload hx hb dX9_storms_103 (lv_at hl 0 rfl) ?_
      refine lv_iconst (v := 2) hx hb dX9_storms_105 (by decide) ?_
      refine lv_iadd hx hb dX9_storms_106 ?_
      refine lv_iload_n hx hb dX9_storms_107 rfl (lv_at hl 4 rfl) ?_
      have hi_17 := (rc_ix hm).1
      replace hm := (rc_ix hm).2
      refine rc_iastj (j := (v4_12 + (2 : Int32)).toNatClampNeg) hx hb hK hW hS (rc_t_10_1 hT h0) (by decide) (fun _ => rfl) hi_17 rfl dX9_storms_108 (fun σ_18 H locs eσ hW hS => ?_)
      replace hm := rc_lt_at hm eσ
      clear eσ
      refine lv_aload_n hx hb dX9_storms_109 rfl (lv_at hl 1 rfl) ?_
      refine rg_10_1 hx hb hts hown hK hW h0 tw_7_70 dX9_storms_110 ?_
      refine lv_iconst (v := 4) hx hb dX9_storms_113 (by decide) ?_
      refine lv_dup2_11 hx hb dX9_storms_114 rfl rfl ?_
      refine rc_ialdj (j := 4) hx hb hK hW (rc_t_10_1 hT h0) (by decide) rfl (rc_inD (by decide)) (by decide) dX9_storms_115 ?_
      refine lv_iconst (v := 1) hx hb dX9_storms_116 (by decide) ?_
      refine lv_iadd hx hb dX9_storms_117 ?_
      refine rc_iastj (j := 4) hx hb hK hW hS (rc_t_10_1 hT h0) (by decide) (fun _ => rfl) (rc_inD (by decide)) (by decide) dX9_storms_118 (fun σ_19 H locs eσ hW hS => ?_)
      replace hm := rc_lt_at hm eσ
      clear eσ
      refine lv_aload_n hx hb dX9_storms_119 rfl (lv_at hl 1 rfl) ?_
      refine rg_10_1 hx hb hts hown hK hW h0 tw_7_70 dX9_storms_120 ?_
      refine lv_iconst (v := 5) hx hb dX9_storms_123 (by decide) ?_
      refine lv_dup2_11 hx hb dX9_storms_124 rfl rfl ?_
      refine rc_ialdj (j := 5) hx hb hK hW (rc_t_10_1 hT h0) (by decide) rfl (rc_inD (by decide)) (by decide) dX9_storms_125 ?_
      refine lv_iload_n hx hb dX9_storms_126 rfl (lv_at hl 4 rfl) ?_
      refine lv_iadd hx hb dX9_storms_127 ?_
      refine rc_iastj (j := 5) hx hb hK hW hS (rc_t_10_1 hT h0) (by decide) (fun _ => rfl) (rc_inD (by decide)) (by decide) dX9_storms_128 (fun σ_20 H locs eσ hW hS => ?_)
      replace hm := rc_lt_at hm eσ
      clear eσ
      refine lv_aload_n hx hb dX9_storms_129 rfl (lv_at hl 1 rfl) ?_
      refine rg_10_1 hx hb hts hown hK hW h0 tw_7_70 dX9_storms_130 ?_
      refine lv_iconst (v := 2) hx hb dX9_storms_133 (by decide) ?_
      refine lv_aload_n hx hb dX9_storms_134 rfl (lv_at hl 1 rfl) ?_
      refine rg_10_1 hx hb hts hown hK hW h0 tw_7_70 dX9_storms_135 ?_
      refine lv_iconst (v := 2) hx hb dX9_storms_138 (by decide) ?_
      refine rc_ialdj (j := 2) hx hb hK hW (rc_t_10_1 hT h0) (by decide) rfl (rc_inD (by decide)) (by decide) dX9_storms_139 ?_
      refine lv_iconst (v := 2) hx hb dX9_storms_140 (by decide) ?_
      refine lv_iload_n hx hb dX9_storms_141 rfl (lv_at hl 3 rfl) ?_
      refine lv_imul hx hb dX9_storms_142 ?_
      refine lv_iadd hx hb dX9_storms_143 ?_
      refine lv_bipush (v := 9) hx hb dX9_storms_144 (by decide) ?_
      refine lv_icmp_le (tgt := 154) hx hb dX9_storms_146 (by decide) (fun c_25 => ?_) (fun c_25 => ?_)
      · replace hm := rc_t hm c_25
        refine lv_aload_n hx hb dX9_storms_154 rfl (lv_at hl 1 rfl) ?_
        refine rg_10_1 hx hb hts hown hK hW h0 tw_7_70 dX9_storms_155 ?_
        refine lv_iconst (v := 2) hx hb dX9_storms_158 (by decide) ?_
        refine rc_ialdj (j := 2) hx hb hK hW (rc_t_10_1 hT h0) (by decide) rfl (rc_inD (by decide)) (by decide) dX9_storms_159 ?_
        refine lv_iconst (v := 2) hx hb dX9_storms_160 (by decide) ?_
        refine lv_iload_n hx hb dX9_storms_161 rfl (lv_at hl 3 rfl) ?_
        refine lv_imul hx hb dX9_storms_162 ?_
        refine lv_iadd hx hb dX9_storms_163 ?_
        refine rc_iastj (j := 2) hx hb hK hW hS (rc_t_10_1 hT h0) (by decide) (fun _ => rfl) (rc_inD (by decide)) (by decide) dX9_storms_164 (fun σ_21 H locs eσ hW hS => ?_)
        replace hm := rc_lt_at hm eσ
        clear eσ
        refine lv_aload_n hx hb dX9_storms_165 rfl (lv_at hl 1 rfl) ?_
        refine lv_iload_n hx hb dX9_storms_166 rfl (lv_at hl 4 rfl) ?_
        obtain ⟨w_22, σ_22, hc_22, hm0⟩ := rc_bd_inv hm
        clear hm
        refine rc_ci hS (va_runV (As := [.int v3_9]) (rest := []) ⟨hx, hb, hml, hown, hts⟩ (k_X9_done l hT a0 v3_9 h0 H.size _ _ _ hc_22) (cwV 1 hts (rc_gV tw_7_175 tw_7_177 tw_p_23 tw_1_14 tw_7_178) rfl rfl rfl (by decide +kernel) ⟨Nat.le_of_ble_eq_true rfl, Nat.le_of_ble_eq_true rfl⟩) (rc_preV hT hW hK hE hS h0 (by decide) rfl (q := (RX9, TX9, 22)) rfl [.int v3_9]) rfl rfl hl.1 rfl (lv_room (Nat.le_of_ble_eq_true rfl)) dX9_storms_167 ⟨Nat.le_of_ble_eq_true rfl, Nat.le_of_ble_eq_true rfl⟩) (fun H locs hW hS => ?_)
        have hm := hm0
        clear hm0 hc_22
        exact rc_eiret hx hb hr hlocks hW hS (Nat.le_of_ble_eq_true rfl) (Nat.le_of_ble_eq_true rfl) hm dX9_storms_170
      · replace hm := rc_f hm c_25
        refine lv_bipush (v := 9) hx hb dX9_storms_149 (by decide) ?_
        refine lv_goto (tgt := 164) hx hb dX9_storms_151 (by decide) ?_
        refine rc_iastj (j := 2) hx hb hK hW hS (rc_t_10_1 hT h0) (by decide) (fun _ => rfl) (rc_inD (by decide)) (by decide) dX9_storms_164 (fun σ_23 H locs eσ hW hS => ?_)
        replace hm := rc_lt_at hm eσ
        clear eσ
        refine lv_aload_n hx hb dX9_storms_165 rfl (lv_at hl 1 rfl) ?_
        refine lv_iload_n hx hb dX9_storms_166 rfl (lv_at hl 4 rfl) ?_
        obtain ⟨w_24, σ_24, hc_24, hm0⟩ := rc_bd_inv hm
        clear hm
        refine rc_ci hS (va_runV (As := [.int v3_9]) (rest := []) ⟨hx, hb, hml, hown, hts⟩ (k_X9_done l hT a0 v3_9 h0 H.size _ _ _ hc_24) (cwV 1 hts (rc_gV tw_7_175 tw_7_177 tw_p_23 tw_1_14 tw_7_178) rfl rfl rfl (by decide +kernel) ⟨Nat.le_of_ble_eq_true rfl, Nat.le_of_ble_eq_true rfl⟩) (rc_preV hT hW hK hE hS h0 (by decide) rfl (q := (RX9, TX9, 22)) rfl [.int v3_9]) rfl rfl hl.1 rfl (lv_room (Nat.le_of_ble_eq_true rfl)) dX9_storms_167 ⟨Nat.le_of_ble_eq_true rfl, Nat.le_of_ble_eq_true rfl⟩) (fun H locs hW hS => ?_)
        have hm := hm0
        clear hm0 hc_24
        exact rc_eiret hx hb hr hlocks hW hS (Nat.le_of_ble_eq_true rfl) (Nat.le_of_ble_eq_true rfl) hm dX9_storms_170
    · replace hm := rc_t hm c_27
      refine lv_aload_n hx hb dX9_storms_19 rfl (lv_at hl 0 rfl) ?_
      refine lv_iconst (v := 1) hx hb dX9_storms_20 (by decide) ?_
      refine lv_iconst (v := 0) hx hb dX9_storms_21 (by decide) ?_
      obtain ⟨w_26, σ_26, hc_26, hm0⟩ := rc_bd_inv hm
      clear hm
      refine rc_ci hS (va_runV (As := [.int (1 : Int32), .int (0 : Int32)]) (rest := []) ⟨hx, hb, hml, hown, hts⟩ (k_X9_refused l hT a0 (1 : Int32) (0 : Int32) h0 H.size _ _ _ hc_26) (cwV 2 hts (rc_gV tw_7_155 tw_7_157 tw_p_18 tw_1_14 tw_7_158) rfl rfl rfl (by decide +kernel) ⟨Nat.le_of_ble_eq_true rfl, Nat.le_of_ble_eq_true rfl⟩) (rc_preV hT hW hK hE hS h0 (by decide) rfl (q := (RX9, TX9, 22)) rfl [.int (1 : Int32), .int (0 : Int32)]) rfl rfl hl.1 rfl (lv_room (Nat.le_of_ble_eq_true rfl)) dX9_storms_22 ⟨Nat.le_of_ble_eq_true rfl, Nat.le_of_ble_eq_true rfl⟩) (fun H locs hW hS => ?_)
      have hm := hm0
      clear hm0 hc_26
      exact rc_eiret hx hb hr hlocks hW hS (Nat.le_of_ble_eq_true rfl) (Nat.le_of_ble_eq_true rfl) hm dX9_storms_25
set_option maxHeartbeats 4000000 in
set_option maxRecDepth 100000 in
theorem k_X9_places (l : Launch) {Y : rc_Y} {sh : Nat → Nat} {rf : rc_F} (hT : rc_T Y sh rf) (a0 : Nat) (u1 : Int32) (h0 : sh a0 = 10) (sz : Nat) (σ σ' : rc_S) (r : Int32) (hm : f_X9_places rf a0 u1 σ = some (r, σ')) : Met l yX9_places (Cond.code yX9_places cX9_places 3 (some .int) :: rc_big) ({ frames := 2, cells := 0, slots := 0, locals := 44 } : Room) (rc_P Y sh rf σ sz [.ref a0, .int u1]) (va_Qi (fun (r' : Int32) (_ : Unit) => r' = r) (fun _ t => rc_W Y sh rf σ' t.heap) (rc_A sh sz)) 0 0 (rc_A sh sz) := by
  refine Met.ofW (cc := cX9_places) (maxL := 3) (ret := (some .int)) (by decide +kernel) rfl ?_
  intro p e s m args below meth c s₁ B hml hv
  obtain ⟨rfl, hsz, hW, hK, hE⟩ := hv
  have hx := B.exec
  have hb := B.bytes
  have hr := B.returns
  have hts : ∀ w ∈ rc_big, w.before _ s = true := fun w h => atoms_spec (ws := Cond.code yX9_places cX9_places 3 (some .int) :: rc_big) B.pre w (List.mem_cons_of_mem _ h)
  have hown : s.vm.findClass RX9 = some m.cls := findClass_of_methodNamed B.named
  have hlocks := B.notSynchronized
  clear B
  subst hsz
  have hS : va_S (rc_A sh s.heap.size) s.heap s.heap [] := va_S.rf
  have hl := lv_entry ([.ref a0, .int u1]) (n := 3) (Nat.le_of_ble_eq_true rfl)
  rw [lg_entry_eq]
  generalize (lg_sl ([.ref a0, .int u1]) ++ List.replicate (3 - (lg_sl ([.ref a0, .int u1])).length) Slot.unset).toArray = ls at hl ⊢
  have hl : lv_has ls 3 [(0, .ref a0), (1, .int u1)] := hl
  unfold f_X9_places at hm
  refine lv_iload_n hx hb dX9_places_0 rfl (lv_at hl 1 rfl) ?_
  refine lv_iconst (v := 0) hx hb dX9_places_1 (by decide) ?_
  refine lv_iconst (v := 3) hx hb dX9_places_2 (by decide) ?_
  obtain ⟨w_1, σ_1, hc_1, hm0⟩ := rc_bd_inv hm
  clear hm
  refine rc_ci hS (va_runS (As := [.int u1, .int (0 : Int32), .int (3 : Int32)]) (rest := []) ⟨hx, hb, hml, hown, hts⟩ (k_X9_in l hT u1 (0 : Int32) (3 : Int32)  s.heap.size _ _ _ hc_1) (va_cwS 3 hts (rc_gS tw_7_152 tw_7_153 tw_1_14 tw_7_154) rfl rfl rfl (by decide +kernel) ⟨Nat.le_of_ble_eq_true rfl, Nat.le_of_ble_eq_true rfl⟩) (rc_preS hT hW hK hE hS [.int u1, .int (0 : Int32), .int (3 : Int32)]) rfl rfl hl.1 rfl (lv_room (Nat.le_of_ble_eq_true rfl)) dX9_places_3 ⟨Nat.le_of_ble_eq_true rfl, Nat.le_of_ble_eq_true rfl⟩) (fun H locs hW hS => ?_)
  have hm := hm0
  clear hm0 hc_1
  refine lv_if_ne (tgt := 16) hx hb dX9_places_6 (by decide) (fun c_10 => ?_) (fun c_10 => ?_)
  · replace hm := rc_f hm c_10
    refine lv_aload_n hx hb dX9_places_16 rfl (lv_at hl 0 rfl) ?_
    refine rg_10_1 hx hb hts hown hK hW h0 tw_7_70 dX9_places_17 ?_
    refine lv_iconst (v := 0) hx hb dX9_places_20 (by decide) ?_
    refine rc_ialdj (j := 0) hx hb hK hW (rc_t_10_1 hT h0) (by decide) rfl (rc_inD (by decide)) (by decide) dX9_places_21 ?_
    refine lv_topi (fun v2_2 ev => ?_)
    replace hm := rc_lt_at hm ev
    clear ev
    refine lv_istore_n (lv' := [(2, .int v2_2), (0, .ref a0), (1, .int u1)]) hx hb dX9_places_22 rfl hl (by decide) rfl (fun ls hl => ?_)
    refine lv_iload_n hx hb dX9_places_23 rfl (lv_at hl 0 rfl) ?_
    refine lv_bipush (v := 8) hx hb dX9_places_24 (by decide) ?_
    refine lv_icmp_ne (tgt := 37) hx hb dX9_places_26 (by decide) (fun c_8 => ?_) (fun c_8 => ?_)
    · replace hm := rc_f hm c_8
      refine lv_aload_n hx hb dX9_places_37 rfl (lv_at hl 1 rfl) ?_
      refine lv_iload_n hx hb dX9_places_38 rfl (lv_at hl 0 rfl) ?_
      refine lv_iconst (v := 0) hx hb dX9_places_39 (by decide) ?_
      refine lv_iload_n hx hb dX9_places_40 rfl (lv_at hl 2 rfl) ?_
      obtain ⟨w_3, σ_3, hc_3, hm0⟩ := rc_bd_inv hm
      clear hm
      refine rc_cv hS (va_runV (As := [.int v2_2, .int (0 : Int32), .int u1]) (rest := []) ⟨hx, hb, hml, hown, hts⟩ (k_X9_sets l hT a0 v2_2 (0 : Int32) u1 h0 H.size _ _ _ hc_3) (cwV 3 hts (rc_gV tw_7_171 tw_7_173 tw_p_22 tw_1_14 tw_7_174) rfl rfl rfl (by decide +kernel) ⟨Nat.le_of_ble_eq_true rfl, Nat.le_of_ble_eq_true rfl⟩) (rc_preV hT hW hK hE hS h0 (by decide) rfl (q := (RX9, TX9, 22)) rfl [.int v2_2, .int (0 : Int32), .int u1]) rfl rfl hl.1 rfl (lv_room (Nat.le_of_ble_eq_true rfl)) dX9_places_41 ⟨Nat.le_of_ble_eq_true rfl, Nat.le_of_ble_eq_true rfl⟩) (fun H locs hW hS => ?_)
      have hm := hm0
      clear hm0 hc_3
      refine lv_aload_n hx hb dX9_places_44 rfl (lv_at hl 1 rfl) ?_
      refine lv_iload_n hx hb dX9_places_45 rfl (lv_at hl 0 rfl) ?_
      obtain ⟨w_4, σ_4, hc_4, hm0⟩ := rc_bd_inv hm
      clear hm
      refine rc_cv hS (va_runV (As := [.int v2_2]) (rest := []) ⟨hx, hb, hml, hown, hts⟩ (k_X9_empties l hT a0 v2_2 h0 H.size _ _ _ hc_4) (cwV 1 hts (rc_gV tw_7_199 tw_7_201 tw_p_28 tw_1_14 tw_7_202) rfl rfl rfl (by decide +kernel) ⟨Nat.le_of_ble_eq_true rfl, Nat.le_of_ble_eq_true rfl⟩) (rc_preV hT hW hK hE hS h0 (by decide) rfl (q := (RX9, TX9, 22)) rfl [.int v2_2]) rfl rfl hl.1 rfl (lv_room (Nat.le_of_ble_eq_true rfl)) dX9_places_46 ⟨Nat.le_of_ble_eq_true rfl, Nat.le_of_ble_eq_true rfl⟩) (fun H locs hW hS => ?_)
      have hm := hm0
      clear hm0 hc_4
      refine lv_aload_n hx hb dX9_places_49 rfl (lv_at hl 1 rfl) ?_
      refine rg_10_1 hx hb hts hown hK hW h0 tw_7_70 dX9_places_50 ?_
      refine lv_iconst (v := 0) hx hb dX9_places_53 (by decide) ?_
      refine lv_iload_n hx hb dX9_places_54 rfl (lv_at hl 0 rfl) ?_
      refine lv_iconst (v := 1) hx hb dX9_places_55 (by decide) ?_
      refine lv_iadd hx hb dX9_places_56 ?_
      refine rc_iastj (j := 0) hx hb hK hW hS (rc_t_10_1 hT h0) (by decide) (fun _ => rfl) (rc_inD (by decide)) (by decide) dX9_places_57 (fun σ_5 H locs eσ hW hS => ?_)
      replace hm := rc_lt_at hm eσ
      clear eσ
      refine lv_aload_n hx hb dX9_places_58 rfl (lv_at hl 1 rfl) ?_
      refine lv_iload_n hx hb dX9_places_59 rfl (lv_at hl 0 rfl) ?_
      obtain ⟨w_6, σ_6, hc_6, hm0⟩ := rc_bd_inv hm
      clear hm
      refine rc_ci hS (va_runV (As := [.int v2_2]) (rest := []) ⟨hx, hb, hml, hown, hts⟩ (k_X9_done l hT a0 v2_2 h0 H.size _ _ _ hc_6) (cwV 1 hts (rc_gV tw_7_175 tw_7_177 tw_p_23 tw_1_14 tw_7_178) rfl rfl rfl (by decide +kernel) ⟨Nat.le_of_ble_eq_true rfl, Nat.le_of_ble_eq_true rfl⟩) (rc_preV hT hW hK hE hS h0 (by decide) rfl (q := (RX9, TX9, 22)) rfl [.int v2_2]) rfl rfl hl.1 rfl (lv_room (Nat.le_of_ble_eq_true rfl)) dX9_places_60 ⟨Nat.le_of_ble_eq_true rfl, Nat.le_of_ble_eq_true rfl⟩) (fun H locs hW hS => ?_)
      have hm := hm0
      clear hm0 hc_6
      exact rc_eiret hx hb hr hlocks hW hS (Nat.le_of_ble_eq_true rfl) (Nat.le_of_ble_eq_true rfl) hm dX9_places_63
    · replace hm := rc_t hm c_8
      refine lv_aload_n hx hb dX9_places_29 rfl (lv_at hl 1 rfl) ?_
      refine lv_iconst (v := 2) hx hb dX9_places_30 (by decide) ?_
      refine lv_bipush (v := 8) hx hb dX9_places_31 (by decide) ?_
      obtain ⟨w_7, σ_7, hc_7, hm0⟩ := rc_bd_inv hm
      clear hm
      refine rc_ci hS (va_runV (As := [.int (2 : Int32), .int (8 : Int32)]) (rest := []) ⟨hx, hb, hml, hown, hts⟩ (k_X9_refused l hT a0 (2 : Int32) (8 : Int32) h0 H.size _ _ _ hc_7) (cwV 2 hts (rc_gV tw_7_155 tw_7_157 tw_p_18 tw_1_14 tw_7_158) rfl rfl rfl (by decide +kernel) ⟨Nat.le_of_ble_eq_true rfl, Nat.le_of_ble_eq_true rfl⟩) (rc_preV hT hW hK hE hS h0 (by decide) rfl (q := (RX9, TX9, 22)) rfl [.int (2 : Int32), .int (8 : Int32)]) rfl rfl hl.1 rfl (lv_room (Nat.le_of_ble_eq_true rfl)) dX9_places_33 ⟨Nat.le_of_ble_eq_true rfl, Nat.le_of_ble_eq_true rfl⟩) (fun H locs hW hS => ?_)
      have hm := hm0
      clear hm0 hc_7
      exact rc_eiret hx hb hr hlocks hW hS (Nat.le_of_ble_eq_true rfl) (Nat.le_of_ble_eq_true rfl) hm dX9_places_36
  · replace hm := rc_t hm c_10
    refine lv_aload_n hx hb dX9_places_9 rfl (lv_at hl 0 rfl) ?_
    refine lv_iconst (v := 1) hx hb dX9_places_10 (by decide) ?_
    refine lv_iconst (v := 0) hx hb dX9_places_11 (by decide) ?_
    obtain ⟨w_9, σ_9, hc_9, hm0⟩ := rc_bd_inv hm
    clear hm
    refine rc_ci hS (va_runV (As := [.int (1 : Int32), .int (0 : Int32)]) (rest := []) ⟨hx, hb, hml, hown, hts⟩ (k_X9_refused l hT a0 (1 : Int32) (0 : Int32) h0 H.size _ _ _ hc_9) (cwV 2 hts (rc_gV tw_7_155 tw_7_157 tw_p_18 tw_1_14 tw_7_158) rfl rfl rfl (by decide +kernel) ⟨Nat.le_of_ble_eq_true rfl, Nat.le_of_ble_eq_true rfl⟩) (rc_preV hT hW hK hE hS h0 (by decide) rfl (q := (RX9, TX9, 22)) rfl [.int (1 : Int32), .int (0 : Int32)]) rfl rfl hl.1 rfl (lv_room (Nat.le_of_ble_eq_true rfl)) dX9_places_12 ⟨Nat.le_of_ble_eq_true rfl, Nat.le_of_ble_eq_true rfl⟩) (fun H locs hW hS => ?_)
    have hm := hm0
    clear hm0 hc_9
    exact rc_eiret hx hb hr hlocks hW hS (Nat.le_of_ble_eq_true rfl) (Nat.le_of_ble_eq_true rfl) hm dX9_places_15
set_option maxHeartbeats 4000000 in
set_option maxRecDepth 100000 in
theorem k_X9_takes (l : Launch) {Y : rc_Y} {sh : Nat → Nat} {rf : rc_F} (hT : rc_T Y sh rf) (a0 : Nat) (u1 : Int32) (h0 : sh a0 = 10) (sz : Nat) (σ σ' : rc_S) (r : Int32) (hm : f_X9_takes rf a0 u1 σ = some (r, σ')) : Met l yX9_takes (Cond.code yX9_takes cX9_takes 4 (some .int) :: rc_big) ({ frames := 2, cells := 0, slots := 0, locals := 43 } : Room) (rc_P Y sh rf σ sz [.ref a0, .int u1]) (va_Qi (fun (r' : Int32) (_ : Unit) => r' = r) (fun _ t => rc_W Y sh rf σ' t.heap) (rc_A sh sz)) 0 0 (rc_A sh sz) := by
  refine Met.ofW (cc := cX9_takes) (maxL := 4) (ret := (some .int)) (by decide +kernel) rfl ?_
  intro p e s m args below meth c s₁ B hml hv
  obtain ⟨rfl, hsz, hW, hK, hE⟩ := hv
  have hx := B.exec
  have hb := B.bytes
  have hr := B.returns
  have hts : ∀ w ∈ rc_big, w.before _ s = true := fun w h => atoms_spec (ws := Cond.code yX9_takes cX9_takes 4 (some .int) :: rc_big) B.pre w (List.mem_cons_of_mem _ h)
  have hown : s.vm.findClass RX9 = some m.cls := findClass_of_methodNamed B.named
  have hlocks := B.notSynchronized
  clear B
  subst hsz
  have hS : va_S (rc_A sh s.heap.size) s.heap s.heap [] := va_S.rf
  have hl := lv_entry ([.ref a0, .int u1]) (n := 4) (Nat.le_of_ble_eq_true rfl)
  rw [lg_entry_eq]
  generalize (lg_sl ([.ref a0, .int u1]) ++ List.replicate (4 - (lg_sl ([.ref a0, .int u1])).length) Slot.unset).toArray = ls at hl ⊢
  have hl : lv_has ls 4 [(0, .ref a0), (1, .int u1)] := hl
  have lp_55 : ∀ (v2 : Int32) (K : Int32 → rc_S → Option (Int32 × rc_S)) (hKK : ∀ (v3 : Int32) (σ : rc_S) (H : Heap) (locs : List Loc) (ls : Array Slot), K v3 σ = some (r, σ') → rc_W Y sh rf σ H → va_S (rc_A sh s.heap.size) s.heap H locs → lv_has ls 4 [(0, .ref a0), (2, .int v2)] → W p l e (headSpec (Cond.code yX9_takes cX9_takes 4 (some .int) :: rc_big) ({ frames := 2, cells := 0, slots := 0, locals := 43 } : Room)).room s m (([.ref a0, .int u1] : List Value).toArray) below meth c H locs (0 + 0 + 0) (0 + 0 + 0) (MQ below (va_Qi (fun (r' : Int32) (_ : Unit) => r' = r) (fun _ t => rc_W Y sh rf σ' t.heap) (rc_A sh s.heap.size)) ([.ref a0, .int u1] : List Value).toArray s 0 0 (rc_A sh s.heap.size)) (F0 m 90 ls [])) (n : Nat) (v3 : Int32) (σ : rc_S) (H : Heap) (locs : List Loc) (ls : Array Slot), f_X9_takes_55 rf a0 v2 K n v3 σ = some (r, σ') → rc_W Y sh rf σ H → va_S (rc_A sh s.heap.size) s.heap H locs → lv_has ls 4 [(0, .ref a0), (2, .int v2), (3, .int v3)] → W p l e (headSpec (Cond.code yX9_takes cX9_takes 4 (some .int) :: rc_big) ({ frames := 2, cells := 0, slots := 0, locals := 43 } : Room)).room s m (([.ref a0, .int u1] : List Value).toArray) below meth c H locs (0 + 0 + 0) (0 + 0 + 0) (MQ below (va_Qi (fun (r' : Int32) (_ : Unit) => r' = r) (fun _ t => rc_W Y sh rf σ' t.heap) (rc_A sh s.heap.size)) ([.ref a0, .int u1] : List Value).toArray s 0 0 (rc_A sh s.heap.size)) (F0 m 55 ls []) := by
    intro v2 K hKK n
    induction n with
    | zero =>
      intro v3 σ H locs ls hm
      rw [f_X9_takes_55] at hm
      cases hm
    | succ n ih =>
      intro v3 σ H locs ls hm hW hS hl
      rw [f_X9_takes_55] at hm
      refine lv_iload_n hx hb dX9_takes_55 rfl (lv_at hl 2 rfl) ?_
      refine lv_bipush (v := 6) hx hb dX9_takes_56 (by decide) ?_
      refine lv_iload_n hx hb dX9_takes_58 rfl (lv_at hl 1 rfl) ?_
      refine lv_imul hx hb dX9_takes_59 ?_
      refine lv_icmp_ge (tgt := 90) hx hb dX9_takes_60 (by decide) (fun c_9 => ?_) (fun c_9 => ?_)
      · replace hm := rc_t hm c_9
        exact hKK v3 σ _ _ _ hm hW hS (lv_sub hl [0, 1] rfl)
      · replace hm := rc_f hm c_9
        refine lv_aload_n hx hb dX9_takes_63 rfl (lv_at hl 0 rfl) ?_
        refine rg_10_1 hx hb hts hown hK hW h0 tw_7_70 dX9_takes_64 ?_
        refine lv_bipush (v := 15) hx hb dX9_takes_67 (by decide) ?_
        refine lv_iload_n hx hb dX9_takes_69 rfl (lv_at hl 2 rfl) ?_
        refine lv_iadd hx hb dX9_takes_70 ?_
        refine lv_aload_n hx hb dX9_takes_71 rfl (lv_at hl 0 rfl) ?_
        refine rg_10_1 hx hb hts hown hK hW h0 tw_7_70 dX9_takes_72 ?_
        refine lv_bipush (v := 15) hx hb dX9_takes_75 (by decide) ?_
        refine lv_iload_n hx hb dX9_takes_77 rfl (lv_at hl 2 rfl) ?_
        refine lv_iadd hx hb dX9_takes_78 ?_
        refine lv_bipush (v := 6) hx hb dX9_takes_79 (by decide) ?_
        refine lv_iadd hx hb dX9_takes_81 ?_
        have hi_5 := (rc_ix hm).1
        replace hm := (rc_ix hm).2
        refine rc_ialdj (j := (((15 : Int32) + v3) + (6 : Int32)).toNatClampNeg) hx hb hK hW (rc_t_10_1 hT h0) (by decide) rfl hi_5 rfl dX9_takes_82 ?_
        have hi_6 := (rc_ix hm).1
        replace hm := (rc_ix hm).2
        refine rc_iastj (j := ((15 : Int32) + v3).toNatClampNeg) hx hb hK hW hS (rc_t_10_1 hT h0) (by decide) (fun _ => rfl) hi_6 rfl dX9_takes_83 (fun σ_7 H locs eσ hW hS => ?_)
        replace hm := rc_lt_at hm eσ
        clear eσ
        obtain ⟨v3_8, ev⟩ : ∃ y : Int32, y = (v3 + 1) := ⟨_, rfl⟩
        replace hm := rc_lt_at hm ev
        refine lv_iinc (v := v3_8) (lv' := [(3, .int v3_8), (0, .ref a0), (2, .int v2)]) hx hb dX9_takes_84 hl (k := 2) rfl (by rw [ev]; rfl) (by decide) rfl (fun ls hl => ?_)
        clear ev
        refine lv_goto (tgt := 55) hx hb dX9_takes_87 (by decide) ?_
        exact ih v3_8 σ_7 _ _ _ hm hW hS (lv_sub hl [1, 2, 0] rfl)
  have lp_92 : ∀ (v2 : Int32) (K : Int32 → rc_S → Option (Int32 × rc_S)) (hKK : ∀ (v3 : Int32) (σ : rc_S) (H : Heap) (locs : List Loc) (ls : Array Slot), K v3 σ = some (r, σ') → rc_W Y sh rf σ H → va_S (rc_A sh s.heap.size) s.heap H locs → lv_has ls 4 [(0, .ref a0), (2, .int v2)] → W p l e (headSpec (Cond.code yX9_takes cX9_takes 4 (some .int) :: rc_big) ({ frames := 2, cells := 0, slots := 0, locals := 43 } : Room)).room s m (([.ref a0, .int u1] : List Value).toArray) below meth c H locs (0 + 0 + 0) (0 + 0 + 0) (MQ below (va_Qi (fun (r' : Int32) (_ : Unit) => r' = r) (fun _ t => rc_W Y sh rf σ' t.heap) (rc_A sh s.heap.size)) ([.ref a0, .int u1] : List Value).toArray s 0 0 (rc_A sh s.heap.size)) (F0 m 119 ls [])) (n : Nat) (v3 : Int32) (σ : rc_S) (H : Heap) (locs : List Loc) (ls : Array Slot), f_X9_takes_92 rf a0 v2 K n v3 σ = some (r, σ') → rc_W Y sh rf σ H → va_S (rc_A sh s.heap.size) s.heap H locs → lv_has ls 4 [(0, .ref a0), (2, .int v2), (3, .int v3)] → W p l e (headSpec (Cond.code yX9_takes cX9_takes 4 (some .int) :: rc_big) ({ frames := 2, cells := 0, slots := 0, locals := 43 } : Room)).room s m (([.ref a0, .int u1] : List Value).toArray) below meth c H locs (0 + 0 + 0) (0 + 0 + 0) (MQ below (va_Qi (fun (r' : Int32) (_ : Unit) => r' = r) (fun _ t => rc_W Y sh rf σ' t.heap) (rc_A sh s.heap.size)) ([.ref a0, .int u1] : List Value).toArray s 0 0 (rc_A sh s.heap.size)) (F0 m 92 ls []) := by
    intro v2 K hKK n
    induction n with
    | zero =>
      intro v3 σ H locs ls hm
      rw [f_X9_takes_92] at hm
      cases hm
    | succ n ih =>
      intro v3 σ H locs ls hm hW hS hl
      rw [f_X9_takes_92] at hm
      refine lv_iload_n hx hb dX9_takes_92 rfl (lv_at hl 2 rfl) ?_
      refine lv_bipush (v := 6) hx hb dX9_takes_93 (by decide) ?_
      refine lv_icmp_ge (tgt := 119) hx hb dX9_takes_95 (by decide) (fun c_15 => ?_) (fun c_15 => ?_)
      · replace hm := rc_t hm c_15
        exact hKK v3 σ _ _ _ hm hW hS (lv_sub hl [0, 1] rfl)
      · replace hm := rc_f hm c_15
        refine lv_aload_n hx hb dX9_takes_98 rfl (lv_at hl 0 rfl) ?_
        refine rg_10_1 hx hb hts hown hK hW h0 tw_7_70 dX9_takes_99 ?_
        refine lv_bipush (v := 15) hx hb dX9_takes_102 (by decide) ?_
        refine lv_bipush (v := 6) hx hb dX9_takes_104 (by decide) ?_
        refine lv_iload_n hx hb dX9_takes_106 rfl (lv_at hl 1 rfl) ?_
        refine lv_imul hx hb dX9_takes_107 ?_
        refine lv_iadd hx hb dX9_takes_108 ?_
        refine lv_iload_n hx hb dX9_takes_109 rfl (lv_at hl 2 rfl) ?_
        refine lv_iadd hx hb dX9_takes_110 ?_
        refine lv_iconst (v := 0) hx hb dX9_takes_111 (by decide) ?_
        have hi_12 := (rc_ix hm).1
        replace hm := (rc_ix hm).2
        refine rc_iastj (j := (((15 : Int32) + ((6 : Int32) * v2)) + v3).toNatClampNeg) hx hb hK hW hS (rc_t_10_1 hT h0) (by decide) (fun _ => rfl) hi_12 rfl dX9_takes_112 (fun σ_13 H locs eσ hW hS => ?_)
        replace hm := rc_lt_at hm eσ
        clear eσ
        obtain ⟨v3_14, ev⟩ : ∃ y : Int32, y = (v3 + 1) := ⟨_, rfl⟩
        replace hm := rc_lt_at hm ev
        refine lv_iinc (v := v3_14) (lv' := [(3, .int v3_14), (0, .ref a0), (2, .int v2)]) hx hb dX9_takes_113 hl (k := 2) rfl (by rw [ev]; rfl) (by decide) rfl (fun ls hl => ?_)
        clear ev
        refine lv_goto (tgt := 92) hx hb dX9_takes_116 (by decide) ?_
        exact ih v3_14 σ_13 _ _ _ hm hW hS (lv_sub hl [1, 2, 0] rfl)
  unfold f_X9_takes at hm
  refine lv_aload_n hx hb dX9_takes_0 rfl (lv_at hl 0 rfl) ?_
  refine lv_iload_n hx hb dX9_takes_1 rfl (lv_at hl 1 rfl) ?_
  obtain ⟨w_1, σ_1, hc_1, hm0⟩ := rc_bd_inv hm
  clear hm
  refine rc_ci hS (va_runV (As := [.int u1]) (rest := []) ⟨hx, hb, hml, hown, hts⟩ (k_X9_isBarrel l hT a0 u1 h0 s.heap.size _ _ _ hc_1) (cwV 1 hts (rc_gV tw_7_211 tw_7_213 tw_p_30 tw_1_14 tw_7_214) rfl rfl rfl (by decide +kernel) ⟨Nat.le_of_ble_eq_true rfl, Nat.le_of_ble_eq_true rfl⟩) (rc_preV hT hW hK hE hS h0 (by decide) rfl (q := (RX9, TX9, 22)) rfl [.int u1]) rfl rfl hl.1 rfl (lv_room (Nat.le_of_ble_eq_true rfl)) dX9_takes_2 ⟨Nat.le_of_ble_eq_true rfl, Nat.le_of_ble_eq_true rfl⟩) (fun H locs hW hS => ?_)
  have hm := hm0
  clear hm0 hc_1
  refine lv_if_ne (tgt := 20) hx hb dX9_takes_5 (by decide) (fun c_24 => ?_) (fun c_24 => ?_)
  · replace hm := rc_f hm c_24
    refine lv_aload_n hx hb dX9_takes_20 rfl (lv_at hl 0 rfl) ?_
    refine lv_iload_n hx hb dX9_takes_21 rfl (lv_at hl 1 rfl) ?_
    refine lv_iconst (v := 1) hx hb dX9_takes_22 (by decide) ?_
    obtain ⟨w_2, σ_2, hc_2, hm0⟩ := rc_bd_inv hm
    clear hm
    refine rc_ci hS (va_runV (As := [.int u1, .int (1 : Int32)]) (rest := []) ⟨hx, hb, hml, hown, hts⟩ (k_X9_of l hT a0 u1 (1 : Int32) h0 H.size _ _ _ hc_2) (cwV 2 hts (rc_gV tw_7_163 tw_7_165 tw_p_20 tw_1_14 tw_7_166) rfl rfl rfl (by decide +kernel) ⟨Nat.le_of_ble_eq_true rfl, Nat.le_of_ble_eq_true rfl⟩) (rc_preV hT hW hK hE hS h0 (by decide) rfl (q := (RX9, TX9, 22)) rfl [.int u1, .int (1 : Int32)]) rfl rfl hl.1 rfl (lv_room (Nat.le_of_ble_eq_true rfl)) dX9_takes_23 ⟨Nat.le_of_ble_eq_true rfl, Nat.le_of_ble_eq_true rfl⟩) (fun H locs hW hS => ?_)
    have hm := hm0
    clear hm0 hc_2
    refine lv_if_le (tgt := 41) hx hb dX9_takes_26 (by decide) (fun c_22 => ?_) (fun c_22 => ?_)
    · replace hm := rc_t hm c_22
      refine lv_aload_n hx hb dX9_takes_41 rfl (lv_at hl 0 rfl) ?_
      refine rg_10_1 hx hb hts hown hK hW h0 tw_7_70 dX9_takes_42 ?_
      refine lv_iconst (v := 0) hx hb dX9_takes_45 (by decide) ?_
      refine rc_ialdj (j := 0) hx hb hK hW (rc_t_10_1 hT h0) (by decide) rfl (rc_inD (by decide)) (by decide) dX9_takes_46 ?_
      refine lv_iconst (v := 1) hx hb dX9_takes_47 (by decide) ?_
      refine lv_isub hx hb dX9_takes_48 ?_
      refine lv_topi (fun v2_3 ev => ?_)
      replace hm := rc_lt_at hm ev
      clear ev
      refine lv_istore_n (lv' := [(2, .int v2_3), (0, .ref a0), (1, .int u1)]) hx hb dX9_takes_49 rfl hl (by decide) rfl (fun ls hl => ?_)
      refine lv_bipush (v := 6) hx hb dX9_takes_50 (by decide) ?_
      refine lv_iload_n hx hb dX9_takes_52 rfl (lv_at hl 2 rfl) ?_
      refine lv_imul hx hb dX9_takes_53 ?_
      refine lv_topi (fun v3_4 ev => ?_)
      replace hm := rc_lt_at hm ev
      clear ev
      refine lv_istore_n (lv' := [(3, .int v3_4), (2, .int v2_3), (0, .ref a0), (1, .int u1)]) hx hb dX9_takes_54 rfl hl (by decide) rfl (fun ls hl => ?_)
      refine lp_55 v2_3 _ (fun v3_10 σ_11 H locs ls hm hW hS hl => ?_) rc_fu v3_4 σ_2 _ _ _ hm hW hS (lv_sub hl [2, 1, 0] rfl)
      refine lv_iconst (v := 0) hx hb dX9_takes_90 (by decide) ?_
      refine lv_istore_n (lv' := [(3, .int (0 : Int32)), (0, .ref a0), (2, .int v2_3)]) hx hb dX9_takes_91 rfl hl (by decide) rfl (fun ls hl => ?_)
      refine lp_92 v2_3 _ (fun v3_16 σ_17 H locs ls hm hW hS hl => ?_) rc_fu (0 : Int32) σ_11 _ _ _ hm hW hS (lv_sub hl [1, 2, 0] rfl)
      refine lv_aload_n hx hb dX9_takes_119 rfl (lv_at hl 0 rfl) ?_
      refine rg_10_1 hx hb hts hown hK hW h0 tw_7_70 dX9_takes_120 ?_
      refine lv_iconst (v := 0) hx hb dX9_takes_123 (by decide) ?_
      refine lv_iload_n hx hb dX9_takes_124 rfl (lv_at hl 1 rfl) ?_
      refine rc_iastj (j := 0) hx hb hK hW hS (rc_t_10_1 hT h0) (by decide) (fun _ => rfl) (rc_inD (by decide)) (by decide) dX9_takes_125 (fun σ_18 H locs eσ hW hS => ?_)
      replace hm := rc_lt_at hm eσ
      clear eσ
      refine lv_aload_n hx hb dX9_takes_126 rfl (lv_at hl 0 rfl) ?_
      refine lv_iload_n hx hb dX9_takes_127 rfl (lv_at hl 1 rfl) ?_
      obtain ⟨w_19, σ_19, hc_19, hm0⟩ := rc_bd_inv hm
      clear hm
      refine rc_ci hS (va_runV (As := [.int v2_3]) (rest := []) ⟨hx, hb, hml, hown, hts⟩ (k_X9_done l hT a0 v2_3 h0 H.size _ _ _ hc_19) (cwV 1 hts (rc_gV tw_7_175 tw_7_177 tw_p_23 tw_1_14 tw_7_178) rfl rfl rfl (by decide +kernel) ⟨Nat.le_of_ble_eq_true rfl, Nat.le_of_ble_eq_true rfl⟩) (rc_preV hT hW hK hE hS h0 (by decide) rfl (q := (RX9, TX9, 22)) rfl [.int v2_3]) rfl rfl hl.1 rfl (lv_room (Nat.le_of_ble_eq_true rfl)) dX9_takes_128 ⟨Nat.le_of_ble_eq_true rfl, Nat.le_of_ble_eq_true rfl⟩) (fun H locs hW hS => ?_)
      have hm := hm0
      clear hm0 hc_19
      exact rc_eiret hx hb hr hlocks hW hS (Nat.le_of_ble_eq_true rfl) (Nat.le_of_ble_eq_true rfl) hm dX9_takes_131
    · replace hm := rc_f hm c_22
      refine lv_aload_n hx hb dX9_takes_29 rfl (lv_at hl 0 rfl) ?_
      refine lv_iconst (v := 5) hx hb dX9_takes_30 (by decide) ?_
      refine lv_aload_n hx hb dX9_takes_31 rfl (lv_at hl 0 rfl) ?_
      refine lv_iload_n hx hb dX9_takes_32 rfl (lv_at hl 1 rfl) ?_
      refine lv_iconst (v := 1) hx hb dX9_takes_33 (by decide) ?_
      obtain ⟨w_20, σ_20, hc_20, hm0⟩ := rc_bd_inv hm
      clear hm
      refine rc_ci hS (va_runV (As := [.int u1, .int (1 : Int32)]) (rest := [.int (5 : Int32), .ref a0]) ⟨hx, hb, hml, hown, hts⟩ (k_X9_of l hT a0 u1 (1 : Int32) h0 H.size _ _ _ hc_20) (cwV 2 hts (rc_gV tw_7_163 tw_7_165 tw_p_20 tw_1_14 tw_7_166) rfl rfl rfl (by decide +kernel) ⟨Nat.le_of_ble_eq_true rfl, Nat.le_of_ble_eq_true rfl⟩) (rc_preV hT hW hK hE hS h0 (by decide) rfl (q := (RX9, TX9, 22)) rfl [.int u1, .int (1 : Int32)]) rfl rfl hl.1 rfl (lv_room (Nat.le_of_ble_eq_true rfl)) dX9_takes_34 ⟨Nat.le_of_ble_eq_true rfl, Nat.le_of_ble_eq_true rfl⟩) (fun H locs hW hS => ?_)
      have hm := hm0
      clear hm0 hc_20
      obtain ⟨w_21, σ_21, hc_21, hm0⟩ := rc_bd_inv hm
      clear hm
      refine rc_ci hS (va_runV (As := [.int (5 : Int32), .int w_20]) (rest := []) ⟨hx, hb, hml, hown, hts⟩ (k_X9_refused l hT a0 (5 : Int32) w_20 h0 H.size _ _ _ hc_21) (cwV 2 hts (rc_gV tw_7_155 tw_7_157 tw_p_18 tw_1_14 tw_7_158) rfl rfl rfl (by decide +kernel) ⟨Nat.le_of_ble_eq_true rfl, Nat.le_of_ble_eq_true rfl⟩) (rc_preV hT hW hK hE hS h0 (by decide) rfl (q := (RX9, TX9, 22)) rfl [.int (5 : Int32), .int w_20]) rfl rfl hl.1 rfl (lv_room (Nat.le_of_ble_eq_true rfl)) dX9_takes_37 ⟨Nat.le_of_ble_eq_true rfl, Nat.le_of_ble_eq_true rfl⟩) (fun H locs hW hS => ?_)
      have hm := hm0
      clear hm0 hc_21
      exact rc_eiret hx hb hr hlocks hW hS (Nat.le_of_ble_eq_true rfl) (Nat.le_of_ble_eq_true rfl) hm dX9_takes_40
  · replace hm := rc_t hm c_24
    refine lv_aload_n hx hb dX9_takes_8 rfl (lv_at hl 0 rfl) ?_
    refine lv_iconst (v := 3) hx hb dX9_takes_9 (by decide) ?_
    refine lv_aload_n hx hb dX9_takes_10 rfl (lv_at hl 0 rfl) ?_
    refine rg_10_1 hx hb hts hown hK hW h0 tw_7_70 dX9_takes_11 ?_
    refine lv_iconst (v := 0) hx hb dX9_takes_14 (by decide) ?_
    refine rc_ialdj (j := 0) hx hb hK hW (rc_t_10_1 hT h0) (by decide) rfl (rc_inD (by decide)) (by decide) dX9_takes_15 ?_
    obtain ⟨w_23, σ_23, hc_23, hm0⟩ := rc_bd_inv hm
    clear hm
    refine rc_ci hS (va_runV (As := [.int (3 : Int32), .int (σ_1 (rf a0 1) 0)]) (rest := []) ⟨hx, hb, hml, hown, hts⟩ (k_X9_refused l hT a0 (3 : Int32) (σ_1 (rf a0 1) 0) h0 H.size _ _ _ hc_23) (cwV 2 hts (rc_gV tw_7_155 tw_7_157 tw_p_18 tw_1_14 tw_7_158) rfl rfl rfl (by decide +kernel) ⟨Nat.le_of_ble_eq_true rfl, Nat.le_of_ble_eq_true rfl⟩) (rc_preV hT hW hK hE hS h0 (by decide) rfl (q := (RX9, TX9, 22)) rfl [.int (3 : Int32), .int (σ_1 (rf a0 1) 0)]) rfl rfl hl.1 rfl (lv_room (Nat.le_of_ble_eq_true rfl)) dX9_takes_16 ⟨Nat.le_of_ble_eq_true rfl, Nat.le_of_ble_eq_true rfl⟩) (fun H locs hW hS => ?_)
    have hm := hm0
    clear hm0 hc_23
    exact rc_eiret hx hb hr hlocks hW hS (Nat.le_of_ble_eq_true rfl) (Nat.le_of_ble_eq_true rfl) hm dX9_takes_19
set_option maxHeartbeats 4000000 in
set_option maxRecDepth 100000 in
theorem k_X9_pours (l : Launch) {Y : rc_Y} {sh : Nat → Nat} {rf : rc_F} (hT : rc_T Y sh rf) (a0 : Nat) (u1 : Int32) (u2 : Int32) (u3 : Int32) (h0 : sh a0 = 10) (sz : Nat) (σ σ' : rc_S) (r : Int32) (hm : f_X9_pours rf a0 u1 u2 u3 σ = some (r, σ')) : Met l yX9_pours (Cond.code yX9_pours cX9_pours 7 (some .int) :: rc_big) ({ frames := 3, cells := 0, slots := 0, locals := 67 } : Room) (rc_P Y sh rf σ sz [.ref a0, .int u1, .int u2, .int u3]) (va_Qi (fun (r' : Int32) (_ : Unit) => r' = r) (fun _ t => rc_W Y sh rf σ' t.heap) (rc_A sh sz)) 0 0 (rc_A sh sz) := by
  refine Met.ofW (cc := cX9_pours) (maxL := 7) (ret := (some .int)) (by decide +kernel) rfl ?_
  intro p e s m args below meth c s₁ B hml hv
  obtain ⟨rfl, hsz, hW, hK, hE⟩ := hv
  have hx := B.exec
  have hb := B.bytes
  have hr := B.returns
  have hts : ∀ w ∈ rc_big, w.before _ s = true := fun w h => atoms_spec (ws := Cond.code yX9_pours cX9_pours 7 (some .int) :: rc_big) B.pre w (List.mem_cons_of_mem _ h)
  have hown : s.vm.findClass RX9 = some m.cls := findClass_of_methodNamed B.named
  have hlocks := B.notSynchronized
  clear B
  subst hsz
  have hS : va_S (rc_A sh s.heap.size) s.heap s.heap [] := va_S.rf
  have hl := lv_entry ([.ref a0, .int u1, .int u2, .int u3]) (n := 7) (Nat.le_of_ble_eq_true rfl)
  rw [lg_entry_eq]
  generalize (lg_sl ([.ref a0, .int u1, .int u2, .int u3]) ++ List.replicate (7 - (lg_sl ([.ref a0, .int u1, .int u2, .int u3])).length) Slot.unset).toArray = ls at hl ⊢
  have hl : lv_has ls 7 [(0, .ref a0), (1, .int u1), (2, .int u2), (3, .int u3)] := hl
  have lp_175 : ∀ (v1 : Int32) (v2 : Int32) (v3 : Int32) (v5 : Int32) (K : Int32 → rc_S → Option (Int32 × rc_S)) (hKK : ∀ (v6 : Int32) (σ : rc_S) (H : Heap) (locs : List Loc) (ls : Array Slot), K v6 σ = some (r, σ') → rc_W Y sh rf σ H → va_S (rc_A sh s.heap.size) s.heap H locs → lv_has ls 7 [(0, .ref a0), (1, .int v1), (2, .int v2), (3, .int v3), (5, .int v5)] → W p l e (headSpec (Cond.code yX9_pours cX9_pours 7 (some .int) :: rc_big) ({ frames := 3, cells := 0, slots := 0, locals := 67 } : Room)).room s m (([.ref a0, .int u1, .int u2, .int u3] : List Value).toArray) below meth c H locs (0 + 0 + 0 + 0 + 0 + 0 + 0 + 0) (0 + 0 + 0 + 0 + 0 + 0 + 0 + 0) (MQ below (va_Qi (fun (r' : Int32) (_ : Unit) => r' = r) (fun _ t => rc_W Y sh rf σ' t.heap) (rc_A sh s.heap.size)) ([.ref a0, .int u1, .int u2, .int u3] : List Value).toArray s 0 0 (rc_A sh s.heap.size)) (F0 m 201 ls [])) (n : Nat) (v6 : Int32) (σ : rc_S) (H : Heap) (locs : List Loc) (ls : Array Slot), f_X9_pours_175 rf a0 v1 v2 v3 v5 K n v6 σ = some (r, σ') → rc_W Y sh rf σ H → va_S (rc_A sh s.heap.size) s.heap H locs → lv_has ls 7 [(0, .ref a0), (1, .int v1), (2, .int v2), (3, .int v3), (5, .int v5), (6, .int v6)] → W p l e (headSpec (Cond.code yX9_pours cX9_pours 7 (some .int) :: rc_big) ({ frames := 3, cells := 0, slots := 0, locals := 67 } : Room)).room s m (([.ref a0, .int u1, .int u2, .int u3] : List Value).toArray) below meth c H locs (0 + 0 + 0 + 0 + 0 + 0 + 0 + 0) (0 + 0 + 0 + 0 + 0 + 0 + 0 + 0) (MQ below (va_Qi (fun (r' : Int32) (_ : Unit) => r' = r) (fun _ t => rc_W Y sh rf σ' t.heap) (rc_A sh s.heap.size)) ([.ref a0, .int u1, .int u2, .int u3] : List Value).toArray s 0 0 (rc_A sh s.heap.size)) (F0 m 175 ls []) := by
    intro v1 v2 v3 v5 K hKK n
    induction n with
    | zero =>
      intro v6 σ H locs ls hm
      rw [f_X9_pours_175] at hm
      cases hm
    | succ n ih =>
      intro v6 σ H locs ls hm hW hS hl
      rw [f_X9_pours_175] at hm
      refine lv_iload hx hb dX9_pours_175 (lv_at hl 5 rfl) ?_
      refine lv_iconst (v := 5) hx hb dX9_pours_177 (by decide) ?_
      refine lv_icmp_gt (tgt := 201) hx hb dX9_pours_178 (by decide) (fun c_29 => ?_) (fun c_29 => ?_)
      · replace hm := rc_t hm c_29
        exact hKK v6 σ _ _ _ hm hW hS (lv_sub hl [0, 1, 2, 3, 4] rfl)
      · replace hm := rc_f hm c_29
        refine lv_aload_n hx hb dX9_pours_181 rfl (lv_at hl 0 rfl) ?_
        refine lv_iload_n hx hb dX9_pours_182 rfl (lv_at hl 2 rfl) ?_
        refine lv_iload hx hb dX9_pours_183 (lv_at hl 5 rfl) ?_
        refine lv_aload_n hx hb dX9_pours_185 rfl (lv_at hl 0 rfl) ?_
        refine lv_iload_n hx hb dX9_pours_186 rfl (lv_at hl 1 rfl) ?_
        refine lv_iload hx hb dX9_pours_187 (lv_at hl 5 rfl) ?_
        obtain ⟨w_26, σ_26, hc_26, hm0⟩ := rc_bd_inv hm
        clear hm
        refine rc_ci hS (va_runV (As := [.int v1, .int v6]) (rest := [.int v6, .int v2, .ref a0]) ⟨hx, hb, hml, hown, hts⟩ (k_X9_of l hT a0 v1 v6 h0 H.size _ _ _ hc_26) (cwV 2 hts (rc_gV tw_7_163 tw_7_165 tw_p_20 tw_1_14 tw_7_166) rfl rfl rfl (by decide +kernel) ⟨Nat.le_of_ble_eq_true rfl, Nat.le_of_ble_eq_true rfl⟩) (rc_preV hT hW hK hE hS h0 (by decide) rfl (q := (RX9, TX9, 22)) rfl [.int v1, .int v6]) rfl rfl hl.1 rfl (lv_room (Nat.le_of_ble_eq_true rfl)) dX9_pours_189 ⟨Nat.le_of_ble_eq_true rfl, Nat.le_of_ble_eq_true rfl⟩) (fun H locs hW hS => ?_)
        have hm := hm0
        clear hm0 hc_26
        obtain ⟨w_27, σ_27, hc_27, hm0⟩ := rc_bd_inv hm
        clear hm
        refine rc_cv hS (va_runV (As := [.int v2, .int v6, .int w_26]) (rest := []) ⟨hx, hb, hml, hown, hts⟩ (k_X9_sets l hT a0 v2 v6 w_26 h0 H.size _ _ _ hc_27) (cwV 3 hts (rc_gV tw_7_171 tw_7_173 tw_p_22 tw_1_14 tw_7_174) rfl rfl rfl (by decide +kernel) ⟨Nat.le_of_ble_eq_true rfl, Nat.le_of_ble_eq_true rfl⟩) (rc_preV hT hW hK hE hS h0 (by decide) rfl (q := (RX9, TX9, 22)) rfl [.int v2, .int v6, .int w_26]) rfl rfl hl.1 rfl (lv_room (Nat.le_of_ble_eq_true rfl)) dX9_pours_192 ⟨Nat.le_of_ble_eq_true rfl, Nat.le_of_ble_eq_true rfl⟩) (fun H locs hW hS => ?_)
        have hm := hm0
        clear hm0 hc_27
        obtain ⟨v6_28, ev⟩ : ∃ y : Int32, y = (v6 + 1) := ⟨_, rfl⟩
        replace hm := rc_lt_at hm ev
        refine lv_iinc (v := v6_28) (lv' := [(6, .int v6_28), (0, .ref a0), (1, .int v1), (2, .int v2), (3, .int v3), (5, .int v5)]) hx hb dX9_pours_195 hl (k := 5) rfl (by rw [ev]; rfl) (by decide) rfl (fun ls hl => ?_)
        clear ev
        refine lv_goto (tgt := 175) hx hb dX9_pours_198 (by decide) ?_
        exact ih v6_28 σ_27 _ _ _ hm hW hS (lv_sub hl [1, 2, 3, 4, 5, 0] rfl)
  unfold f_X9_pours at hm
  refine lv_aload_n hx hb dX9_pours_0 rfl (lv_at hl 0 rfl) ?_
  refine lv_iload_n hx hb dX9_pours_1 rfl (lv_at hl 1 rfl) ?_
  obtain ⟨w_1, σ_1, hc_1, hm0⟩ := rc_bd_inv hm
  clear hm
  refine rc_ci hS (va_runV (As := [.int u1]) (rest := []) ⟨hx, hb, hml, hown, hts⟩ (k_X9_isBarrel l hT a0 u1 h0 s.heap.size _ _ _ hc_1) (cwV 1 hts (rc_gV tw_7_211 tw_7_213 tw_p_30 tw_1_14 tw_7_214) rfl rfl rfl (by decide +kernel) ⟨Nat.le_of_ble_eq_true rfl, Nat.le_of_ble_eq_true rfl⟩) (rc_preV hT hW hK hE hS h0 (by decide) rfl (q := (RX9, TX9, 22)) rfl [.int u1]) rfl rfl hl.1 rfl (lv_room (Nat.le_of_ble_eq_true rfl)) dX9_pours_2 ⟨Nat.le_of_ble_eq_true rfl, Nat.le_of_ble_eq_true rfl⟩) (fun H locs hW hS => ?_)
  have hm := hm0
  clear hm0 hc_1
  refine lv_if_eq (tgt := 16) hx hb dX9_pours_5 (by decide) (fun c_52 => ?_) (fun c_52 => ?_)
  · replace hm := rc_t hm c_52
    refine lv_aload_n hx hb dX9_pours_16 rfl (lv_at hl 0 rfl) ?_
    refine lv_iconst (v := 3) hx hb dX9_pours_17 (by decide) ?_
    refine lv_aload_n hx hb dX9_pours_18 rfl (lv_at hl 0 rfl) ?_
    refine rg_10_1 hx hb hts hown hK hW h0 tw_7_70 dX9_pours_19 ?_
    refine lv_iconst (v := 0) hx hb dX9_pours_22 (by decide) ?_
    refine rc_ialdj (j := 0) hx hb hK hW (rc_t_10_1 hT h0) (by decide) rfl (rc_inD (by decide)) (by decide) dX9_pours_23 ?_
    obtain ⟨w_2, σ_2, hc_2, hm0⟩ := rc_bd_inv hm
    clear hm
    refine rc_ci hS (va_runV (As := [.int (3 : Int32), .int (σ_1 (rf a0 1) 0)]) (rest := []) ⟨hx, hb, hml, hown, hts⟩ (k_X9_refused l hT a0 (3 : Int32) (σ_1 (rf a0 1) 0) h0 H.size _ _ _ hc_2) (cwV 2 hts (rc_gV tw_7_155 tw_7_157 tw_p_18 tw_1_14 tw_7_158) rfl rfl rfl (by decide +kernel) ⟨Nat.le_of_ble_eq_true rfl, Nat.le_of_ble_eq_true rfl⟩) (rc_preV hT hW hK hE hS h0 (by decide) rfl (q := (RX9, TX9, 22)) rfl [.int (3 : Int32), .int (σ_1 (rf a0 1) 0)]) rfl rfl hl.1 rfl (lv_room (Nat.le_of_ble_eq_true rfl)) dX9_pours_24 ⟨Nat.le_of_ble_eq_true rfl, Nat.le_of_ble_eq_true rfl⟩) (fun H locs hW hS => ?_)
    have hm := hm0
    clear hm0 hc_2
    exact rc_eiret hx hb hr hlocks hW hS (Nat.le_of_ble_eq_true rfl) (Nat.le_of_ble_eq_true rfl) hm dX9_pours_27
  · replace hm := rc_f hm c_52
    refine lv_aload_n hx hb dX9_pours_8 rfl (lv_at hl 0 rfl) ?_
    refine lv_iload_n hx hb dX9_pours_9 rfl (lv_at hl 2 rfl) ?_
    obtain ⟨w_3, σ_3, hc_3, hm0⟩ := rc_bd_inv hm
    clear hm
    refine rc_ci hS (va_runV (As := [.int u2]) (rest := []) ⟨hx, hb, hml, hown, hts⟩ (k_X9_isBarrel l hT a0 u2 h0 H.size _ _ _ hc_3) (cwV 1 hts (rc_gV tw_7_211 tw_7_213 tw_p_30 tw_1_14 tw_7_214) rfl rfl rfl (by decide +kernel) ⟨Nat.le_of_ble_eq_true rfl, Nat.le_of_ble_eq_true rfl⟩) (rc_preV hT hW hK hE hS h0 (by decide) rfl (q := (RX9, TX9, 22)) rfl [.int u2]) rfl rfl hl.1 rfl (lv_room (Nat.le_of_ble_eq_true rfl)) dX9_pours_10 ⟨Nat.le_of_ble_eq_true rfl, Nat.le_of_ble_eq_true rfl⟩) (fun H locs hW hS => ?_)
    have hm := hm0
    clear hm0 hc_3
    refine lv_if_ne (tgt := 28) hx hb dX9_pours_13 (by decide) (fun c_51 => ?_) (fun c_51 => ?_)
    · replace hm := rc_f hm c_51
      refine lv_iload_n hx hb dX9_pours_28 rfl (lv_at hl 1 rfl) ?_
      refine lv_iload_n hx hb dX9_pours_29 rfl (lv_at hl 2 rfl) ?_
      refine lv_icmp_ne (tgt := 41) hx hb dX9_pours_30 (by decide) (fun c_49 => ?_) (fun c_49 => ?_)
      · replace hm := rc_f hm c_49
        refine lv_iload_n hx hb dX9_pours_41 rfl (lv_at hl 3 rfl) ?_
        refine lv_iconst (v := 1) hx hb dX9_pours_42 (by decide) ?_
        refine lv_bipush (v := 20) hx hb dX9_pours_43 (by decide) ?_
        obtain ⟨w_4, σ_4, hc_4, hm0⟩ := rc_bd_inv hm
        clear hm
        refine rc_ci hS (va_runS (As := [.int u3, .int (1 : Int32), .int (20 : Int32)]) (rest := []) ⟨hx, hb, hml, hown, hts⟩ (k_X9_in l hT u3 (1 : Int32) (20 : Int32)  H.size _ _ _ hc_4) (va_cwS 3 hts (rc_gS tw_7_152 tw_7_153 tw_1_14 tw_7_154) rfl rfl rfl (by decide +kernel) ⟨Nat.le_of_ble_eq_true rfl, Nat.le_of_ble_eq_true rfl⟩) (rc_preS hT hW hK hE hS [.int u3, .int (1 : Int32), .int (20 : Int32)]) rfl rfl hl.1 rfl (lv_room (Nat.le_of_ble_eq_true rfl)) dX9_pours_45 ⟨Nat.le_of_ble_eq_true rfl, Nat.le_of_ble_eq_true rfl⟩) (fun H locs hW hS => ?_)
        have hm := hm0
        clear hm0 hc_4
        refine lv_if_ne (tgt := 58) hx hb dX9_pours_48 (by decide) (fun c_47 => ?_) (fun c_47 => ?_)
        · replace hm := rc_f hm c_47
          refine lv_aload_n hx hb dX9_pours_58 rfl (lv_at hl 0 rfl) ?_
          refine lv_iload_n hx hb dX9_pours_59 rfl (lv_at hl 1 rfl) ?_
          refine lv_iconst (v := 1) hx hb dX9_pours_60 (by decide) ?_
          obtain ⟨w_5, σ_5, hc_5, hm0⟩ := rc_bd_inv hm
          clear hm
          refine rc_ci hS (va_runV (As := [.int u1, .int (1 : Int32)]) (rest := []) ⟨hx, hb, hml, hown, hts⟩ (k_X9_of l hT a0 u1 (1 : Int32) h0 H.size _ _ _ hc_5) (cwV 2 hts (rc_gV tw_7_163 tw_7_165 tw_p_20 tw_1_14 tw_7_166) rfl rfl rfl (by decide +kernel) ⟨Nat.le_of_ble_eq_true rfl, Nat.le_of_ble_eq_true rfl⟩) (rc_preV hT hW hK hE hS h0 (by decide) rfl (q := (RX9, TX9, 22)) rfl [.int u1, .int (1 : Int32)]) rfl rfl hl.1 rfl (lv_room (Nat.le_of_ble_eq_true rfl)) dX9_pours_61 ⟨Nat.le_of_ble_eq_true rfl, Nat.le_of_ble_eq_true rfl⟩) (fun H locs hW hS => ?_)
          have hm := hm0
          clear hm0 hc_5
          refine lv_iload_n hx hb dX9_pours_64 rfl (lv_at hl 3 rfl) ?_
          refine lv_icmp_ge (tgt := 81) hx hb dX9_pours_65 (by decide) (fun c_45 => ?_) (fun c_45 => ?_)
          · replace hm := rc_t hm c_45
            refine lv_aload_n hx hb dX9_pours_81 rfl (lv_at hl 0 rfl) ?_
            refine lv_iload_n hx hb dX9_pours_82 rfl (lv_at hl 2 rfl) ?_
            refine lv_iconst (v := 1) hx hb dX9_pours_83 (by decide) ?_
            obtain ⟨w_6, σ_6, hc_6, hm0⟩ := rc_bd_inv hm
            clear hm
            refine rc_ci hS (va_runV (As := [.int u2, .int (1 : Int32)]) (rest := []) ⟨hx, hb, hml, hown, hts⟩ (k_X9_of l hT a0 u2 (1 : Int32) h0 H.size _ _ _ hc_6) (cwV 2 hts (rc_gV tw_7_163 tw_7_165 tw_p_20 tw_1_14 tw_7_166) rfl rfl rfl (by decide +kernel) ⟨Nat.le_of_ble_eq_true rfl, Nat.le_of_ble_eq_true rfl⟩) (rc_preV hT hW hK hE hS h0 (by decide) rfl (q := (RX9, TX9, 22)) rfl [.int u2, .int (1 : Int32)]) rfl rfl hl.1 rfl (lv_room (Nat.le_of_ble_eq_true rfl)) dX9_pours_84 ⟨Nat.le_of_ble_eq_true rfl, Nat.le_of_ble_eq_true rfl⟩) (fun H locs hW hS => ?_)
            have hm := hm0
            clear hm0 hc_6
            refine lv_if_ne (tgt := 94) hx hb dX9_pours_87 (by decide) (fun c_42 => ?_) (fun c_42 => ?_)
            · replace hm := rc_f hm c_42
              refine lv_iconst (v := 0) hx hb dX9_pours_94 (by decide) ?_
              refine lv_istore (lv' := [(4, .int (0 : Int32)), (0, .ref a0), (1, .int u1), (2, .int u2), (3, .int u3)]) hx hb dX9_pours_95 hl (by decide) rfl (fun ls hl => ?_)
              refine lv_iload hx hb dX9_pours_97 (lv_at hl 0 rfl) ?_
              refine lv_if_ne (tgt := 130) hx hb dX9_pours_99 (by decide) (fun c9 => absurd c9 (by decide)) (fun _ => ?_)
              refine lv_aload_n hx hb dX9_pours_102 rfl (lv_at hl 1 rfl) ?_
              refine lv_iload_n hx hb dX9_pours_103 rfl (lv_at hl 3 rfl) ?_
              refine lv_iconst (v := 3) hx hb dX9_pours_104 (by decide) ?_
              obtain ⟨w_7, σ_7, hc_7, hm0⟩ := rc_bd_inv hm
              clear hm
              refine rc_ci hS (va_runV (As := [.int u2, .int (3 : Int32)]) (rest := []) ⟨hx, hb, hml, hown, hts⟩ (k_X9_of l hT a0 u2 (3 : Int32) h0 H.size _ _ _ hc_7) (cwV 2 hts (rc_gV tw_7_163 tw_7_165 tw_p_20 tw_1_14 tw_7_166) rfl rfl rfl (by decide +kernel) ⟨Nat.le_of_ble_eq_true rfl, Nat.le_of_ble_eq_true rfl⟩) (rc_preV hT hW hK hE hS h0 (by decide) rfl (q := (RX9, TX9, 22)) rfl [.int u2, .int (3 : Int32)]) rfl rfl hl.1 rfl (lv_room (Nat.le_of_ble_eq_true rfl)) dX9_pours_105 ⟨Nat.le_of_ble_eq_true rfl, Nat.le_of_ble_eq_true rfl⟩) (fun H locs hW hS => ?_)
              have hm := hm0
              clear hm0 hc_7
              refine lv_aload_n hx hb dX9_pours_108 rfl (lv_at hl 1 rfl) ?_
              refine lv_iload_n hx hb dX9_pours_109 rfl (lv_at hl 2 rfl) ?_
              refine lv_iconst (v := 3) hx hb dX9_pours_110 (by decide) ?_
              obtain ⟨w_8, σ_8, hc_8, hm0⟩ := rc_bd_inv hm
              clear hm
              refine rc_ci hS (va_runV (As := [.int u1, .int (3 : Int32)]) (rest := [.int w_7]) ⟨hx, hb, hml, hown, hts⟩ (k_X9_of l hT a0 u1 (3 : Int32) h0 H.size _ _ _ hc_8) (cwV 2 hts (rc_gV tw_7_163 tw_7_165 tw_p_20 tw_1_14 tw_7_166) rfl rfl rfl (by decide +kernel) ⟨Nat.le_of_ble_eq_true rfl, Nat.le_of_ble_eq_true rfl⟩) (rc_preV hT hW hK hE hS h0 (by decide) rfl (q := (RX9, TX9, 22)) rfl [.int u1, .int (3 : Int32)]) rfl rfl hl.1 rfl (lv_room (Nat.le_of_ble_eq_true rfl)) dX9_pours_111 ⟨Nat.le_of_ble_eq_true rfl, Nat.le_of_ble_eq_true rfl⟩) (fun H locs hW hS => ?_)
              have hm := hm0
              clear hm0 hc_8
              refine lv_icmp_eq (tgt := 130) hx hb dX9_pours_114 (by decide) (fun c_23 => ?_) (fun c_23 => ?_)
              · replace hm := rc_t hm c_23
                refine lv_bipush (v := 20) hx hb dX9_pours_130 (by decide) ?_
                refine lv_aload_n hx hb dX9_pours_132 rfl (lv_at hl 1 rfl) ?_
                refine lv_iload_n hx hb dX9_pours_133 rfl (lv_at hl 3 rfl) ?_
                refine lv_iconst (v := 1) hx hb dX9_pours_134 (by decide) ?_
                obtain ⟨w_9, σ_9, hc_9, hm0⟩ := rc_bd_inv hm
                clear hm
                refine rc_ci hS (va_runV (As := [.int u2, .int (1 : Int32)]) (rest := [.int (20 : Int32)]) ⟨hx, hb, hml, hown, hts⟩ (k_X9_of l hT a0 u2 (1 : Int32) h0 H.size _ _ _ hc_9) (cwV 2 hts (rc_gV tw_7_163 tw_7_165 tw_p_20 tw_1_14 tw_7_166) rfl rfl rfl (by decide +kernel) ⟨Nat.le_of_ble_eq_true rfl, Nat.le_of_ble_eq_true rfl⟩) (rc_preV hT hW hK hE hS h0 (by decide) rfl (q := (RX9, TX9, 22)) rfl [.int u2, .int (1 : Int32)]) rfl rfl hl.1 rfl (lv_room (Nat.le_of_ble_eq_true rfl)) dX9_pours_135 ⟨Nat.le_of_ble_eq_true rfl, Nat.le_of_ble_eq_true rfl⟩) (fun H locs hW hS => ?_)
                have hm := hm0
                clear hm0 hc_9
                refine lv_isub hx hb dX9_pours_138 ?_
                refine lv_iload_n hx hb dX9_pours_139 rfl (lv_at hl 4 rfl) ?_
                refine lv_icmp_ge (tgt := 159) hx hb dX9_pours_140 (by decide) (fun c_20 => ?_) (fun c_20 => ?_)
                · replace hm := rc_t hm c_20
                  refine lv_aload_n hx hb dX9_pours_159 rfl (lv_at hl 1 rfl) ?_
                  refine lv_iload_n hx hb dX9_pours_160 rfl (lv_at hl 2 rfl) ?_
                  refine lv_iload_n hx hb dX9_pours_161 rfl (lv_at hl 4 rfl) ?_
                  obtain ⟨w_10, σ_10, hc_10, hm0⟩ := rc_bd_inv hm
                  clear hm
                  refine rc_ci hS (va_runV (As := [.int u1, .int u3]) (rest := []) ⟨hx, hb, hml, hown, hts⟩ (k_X9_hailIn l hT a0 u1 u3 h0 H.size _ _ _ hc_10) (cwV 2 hts (rc_gV tw_7_223 tw_7_225 tw_p_32 tw_1_14 tw_7_226) rfl rfl rfl (by decide +kernel) ⟨Nat.le_of_ble_eq_true rfl, Nat.le_of_ble_eq_true rfl⟩) (rc_preV hT hW hK hE hS h0 (by decide) rfl (q := (RX9, TX9, 22)) rfl [.int u1, .int u3]) rfl rfl hl.1 rfl (lv_room (Nat.le_of_ble_eq_true rfl)) dX9_pours_162 ⟨Nat.le_of_ble_eq_true rfl, Nat.le_of_ble_eq_true rfl⟩) (fun H locs hW hS => ?_)
                  have hm := hm0
                  clear hm0 hc_10
                  refine lv_istore (lv' := [(5, .int w_10), (4, .int (0 : Int32)), (0, .ref a0), (1, .int u1), (2, .int u2), (3, .int u3)]) hx hb dX9_pours_165 hl (by decide) rfl (fun ls hl => ?_)
                  refine lv_iload hx hb dX9_pours_167 (lv_at hl 1 rfl) ?_
                  refine lv_if_eq (tgt := 201) hx hb dX9_pours_169 (by decide) (fun _ => ?_) (fun c9 => absurd c9 (by decide))
                  refine lv_aload_n hx hb dX9_pours_201 rfl (lv_at hl 2 rfl) ?_
                  refine lv_iload_n hx hb dX9_pours_202 rfl (lv_at hl 4 rfl) ?_
                  refine lv_iconst (v := 1) hx hb dX9_pours_203 (by decide) ?_
                  refine lv_aload_n hx hb dX9_pours_204 rfl (lv_at hl 2 rfl) ?_
                  refine lv_iload_n hx hb dX9_pours_205 rfl (lv_at hl 4 rfl) ?_
                  refine lv_iconst (v := 1) hx hb dX9_pours_206 (by decide) ?_
                  obtain ⟨w_11, σ_11, hc_11, hm0⟩ := rc_bd_inv hm
                  clear hm
                  refine rc_ci hS (va_runV (As := [.int u2, .int (1 : Int32)]) (rest := [.int (1 : Int32), .int u2, .ref a0]) ⟨hx, hb, hml, hown, hts⟩ (k_X9_of l hT a0 u2 (1 : Int32) h0 H.size _ _ _ hc_11) (cwV 2 hts (rc_gV tw_7_163 tw_7_165 tw_p_20 tw_1_14 tw_7_166) rfl rfl rfl (by decide +kernel) ⟨Nat.le_of_ble_eq_true rfl, Nat.le_of_ble_eq_true rfl⟩) (rc_preV hT hW hK hE hS h0 (by decide) rfl (q := (RX9, TX9, 22)) rfl [.int u2, .int (1 : Int32)]) rfl rfl hl.1 rfl (lv_room (Nat.le_of_ble_eq_true rfl)) dX9_pours_207 ⟨Nat.le_of_ble_eq_true rfl, Nat.le_of_ble_eq_true rfl⟩) (fun H locs hW hS => ?_)
                  have hm := hm0
                  clear hm0 hc_11
                  refine lv_iload_n hx hb dX9_pours_210 rfl (lv_at hl 5 rfl) ?_
                  refine lv_iadd hx hb dX9_pours_211 ?_
                  obtain ⟨w_12, σ_12, hc_12, hm0⟩ := rc_bd_inv hm
                  clear hm
                  refine rc_cv hS (va_runV (As := [.int u2, .int (1 : Int32), .int (w_11 + u3)]) (rest := []) ⟨hx, hb, hml, hown, hts⟩ (k_X9_sets l hT a0 u2 (1 : Int32) (w_11 + u3) h0 H.size _ _ _ hc_12) (cwV 3 hts (rc_gV tw_7_171 tw_7_173 tw_p_22 tw_1_14 tw_7_174) rfl rfl rfl (by decide +kernel) ⟨Nat.le_of_ble_eq_true rfl, Nat.le_of_ble_eq_true rfl⟩) (rc_preV hT hW hK hE hS h0 (by decide) rfl (q := (RX9, TX9, 22)) rfl [.int u2, .int (1 : Int32), .int (w_11 + u3)]) rfl rfl hl.1 rfl (lv_room (Nat.le_of_ble_eq_true rfl)) dX9_pours_212 ⟨Nat.le_of_ble_eq_true rfl, Nat.le_of_ble_eq_true rfl⟩) (fun H locs hW hS => ?_)
                  have hm := hm0
                  clear hm0 hc_12
                  refine lv_aload_n hx hb dX9_pours_215 rfl (lv_at hl 2 rfl) ?_
                  refine lv_iload_n hx hb dX9_pours_216 rfl (lv_at hl 4 rfl) ?_
                  refine lv_iconst (v := 2) hx hb dX9_pours_217 (by decide) ?_
                  refine lv_aload_n hx hb dX9_pours_218 rfl (lv_at hl 2 rfl) ?_
                  refine lv_iload_n hx hb dX9_pours_219 rfl (lv_at hl 4 rfl) ?_
                  refine lv_iconst (v := 2) hx hb dX9_pours_220 (by decide) ?_
                  obtain ⟨w_13, σ_13, hc_13, hm0⟩ := rc_bd_inv hm
                  clear hm
                  refine rc_ci hS (va_runV (As := [.int u2, .int (2 : Int32)]) (rest := [.int (2 : Int32), .int u2, .ref a0]) ⟨hx, hb, hml, hown, hts⟩ (k_X9_of l hT a0 u2 (2 : Int32) h0 H.size _ _ _ hc_13) (cwV 2 hts (rc_gV tw_7_163 tw_7_165 tw_p_20 tw_1_14 tw_7_166) rfl rfl rfl (by decide +kernel) ⟨Nat.le_of_ble_eq_true rfl, Nat.le_of_ble_eq_true rfl⟩) (rc_preV hT hW hK hE hS h0 (by decide) rfl (q := (RX9, TX9, 22)) rfl [.int u2, .int (2 : Int32)]) rfl rfl hl.1 rfl (lv_room (Nat.le_of_ble_eq_true rfl)) dX9_pours_221 ⟨Nat.le_of_ble_eq_true rfl, Nat.le_of_ble_eq_true rfl⟩) (fun H locs hW hS => ?_)
                  have hm := hm0
                  clear hm0 hc_13
                  refine lv_iload hx hb dX9_pours_224 (lv_at hl 0 rfl) ?_
                  refine lv_iadd hx hb dX9_pours_226 ?_
                  obtain ⟨w_14, σ_14, hc_14, hm0⟩ := rc_bd_inv hm
                  clear hm
                  refine rc_cv hS (va_runV (As := [.int u2, .int (2 : Int32), .int (w_13 + w_10)]) (rest := []) ⟨hx, hb, hml, hown, hts⟩ (k_X9_sets l hT a0 u2 (2 : Int32) (w_13 + w_10) h0 H.size _ _ _ hc_14) (cwV 3 hts (rc_gV tw_7_171 tw_7_173 tw_p_22 tw_1_14 tw_7_174) rfl rfl rfl (by decide +kernel) ⟨Nat.le_of_ble_eq_true rfl, Nat.le_of_ble_eq_true rfl⟩) (rc_preV hT hW hK hE hS h0 (by decide) rfl (q := (RX9, TX9, 22)) rfl [.int u2, .int (2 : Int32), .int (w_13 + w_10)]) rfl rfl hl.1 rfl (lv_room (Nat.le_of_ble_eq_true rfl)) dX9_pours_227 ⟨Nat.le_of_ble_eq_true rfl, Nat.le_of_ble_eq_true rfl⟩) (fun H locs hW hS => ?_)
                  have hm := hm0
                  clear hm0 hc_14
                  refine lv_aload_n hx hb dX9_pours_230 rfl (lv_at hl 2 rfl) ?_
                  refine lv_iload_n hx hb dX9_pours_231 rfl (lv_at hl 3 rfl) ?_
                  refine lv_iload_n hx hb dX9_pours_232 rfl (lv_at hl 5 rfl) ?_
                  refine lv_iload hx hb dX9_pours_233 (lv_at hl 0 rfl) ?_
                  obtain ⟨w_15, σ_15, hc_15, hm0⟩ := rc_bd_inv hm
                  clear hm
                  refine rc_cv hS (va_runV (As := [.int u1, .int u3, .int w_10]) (rest := []) ⟨hx, hb, hml, hown, hts⟩ (k_X9_goes l hT a0 u1 u3 w_10 h0 H.size _ _ _ hc_15) (cwV 3 hts (rc_gV tw_7_234 tw_7_236 tw_p_34 tw_1_14 tw_7_237) rfl rfl rfl (by decide +kernel) ⟨Nat.le_of_ble_eq_true rfl, Nat.le_of_ble_eq_true rfl⟩) (rc_preV hT hW hK hE hS h0 (by decide) rfl (q := (RX9, TX9, 22)) rfl [.int u1, .int u3, .int w_10]) rfl rfl hl.1 rfl (lv_room (Nat.le_of_ble_eq_true rfl)) dX9_pours_235 ⟨Nat.le_of_ble_eq_true rfl, Nat.le_of_ble_eq_true rfl⟩) (fun H locs hW hS => ?_)
                  have hm := hm0
                  clear hm0 hc_15
                  refine lv_aload_n hx hb dX9_pours_238 rfl (lv_at hl 2 rfl) ?_
                  refine lv_aload_n hx hb dX9_pours_239 rfl (lv_at hl 2 rfl) ?_
                  refine lv_iload_n hx hb dX9_pours_240 rfl (lv_at hl 4 rfl) ?_
                  refine lv_iconst (v := 1) hx hb dX9_pours_241 (by decide) ?_
                  obtain ⟨w_16, σ_16, hc_16, hm0⟩ := rc_bd_inv hm
                  clear hm
                  refine rc_ci hS (va_runV (As := [.int u2, .int (1 : Int32)]) (rest := [.ref a0]) ⟨hx, hb, hml, hown, hts⟩ (k_X9_of l hT a0 u2 (1 : Int32) h0 H.size _ _ _ hc_16) (cwV 2 hts (rc_gV tw_7_163 tw_7_165 tw_p_20 tw_1_14 tw_7_166) rfl rfl rfl (by decide +kernel) ⟨Nat.le_of_ble_eq_true rfl, Nat.le_of_ble_eq_true rfl⟩) (rc_preV hT hW hK hE hS h0 (by decide) rfl (q := (RX9, TX9, 22)) rfl [.int u2, .int (1 : Int32)]) rfl rfl hl.1 rfl (lv_room (Nat.le_of_ble_eq_true rfl)) dX9_pours_242 ⟨Nat.le_of_ble_eq_true rfl, Nat.le_of_ble_eq_true rfl⟩) (fun H locs hW hS => ?_)
                  have hm := hm0
                  clear hm0 hc_16
                  obtain ⟨w_17, σ_17, hc_17, hm0⟩ := rc_bd_inv hm
                  clear hm
                  refine rc_ci hS (va_runV (As := [.int w_16]) (rest := []) ⟨hx, hb, hml, hown, hts⟩ (k_X9_done l hT a0 w_16 h0 H.size _ _ _ hc_17) (cwV 1 hts (rc_gV tw_7_175 tw_7_177 tw_p_23 tw_1_14 tw_7_178) rfl rfl rfl (by decide +kernel) ⟨Nat.le_of_ble_eq_true rfl, Nat.le_of_ble_eq_true rfl⟩) (rc_preV hT hW hK hE hS h0 (by decide) rfl (q := (RX9, TX9, 22)) rfl [.int w_16]) rfl rfl hl.1 rfl (lv_room (Nat.le_of_ble_eq_true rfl)) dX9_pours_245 ⟨Nat.le_of_ble_eq_true rfl, Nat.le_of_ble_eq_true rfl⟩) (fun H locs hW hS => ?_)
                  have hm := hm0
                  clear hm0 hc_17
                  exact rc_eiret hx hb hr hlocks hW hS (Nat.le_of_ble_eq_true rfl) (Nat.le_of_ble_eq_true rfl) hm dX9_pours_248
                · replace hm := rc_f hm c_20
                  refine lv_aload_n hx hb dX9_pours_143 rfl (lv_at hl 1 rfl) ?_
                  refine lv_bipush (v := 7) hx hb dX9_pours_144 (by decide) ?_
                  refine lv_bipush (v := 20) hx hb dX9_pours_146 (by decide) ?_
                  refine lv_aload_n hx hb dX9_pours_148 rfl (lv_at hl 1 rfl) ?_
                  refine lv_iload_n hx hb dX9_pours_149 rfl (lv_at hl 3 rfl) ?_
                  refine lv_iconst (v := 1) hx hb dX9_pours_150 (by decide) ?_
                  obtain ⟨w_18, σ_18, hc_18, hm0⟩ := rc_bd_inv hm
                  clear hm
                  refine rc_ci hS (va_runV (As := [.int u2, .int (1 : Int32)]) (rest := [.int (20 : Int32), .int (7 : Int32), .ref a0]) ⟨hx, hb, hml, hown, hts⟩ (k_X9_of l hT a0 u2 (1 : Int32) h0 H.size _ _ _ hc_18) (cwV 2 hts (rc_gV tw_7_163 tw_7_165 tw_p_20 tw_1_14 tw_7_166) rfl rfl rfl (by decide +kernel) ⟨Nat.le_of_ble_eq_true rfl, Nat.le_of_ble_eq_true rfl⟩) (rc_preV hT hW hK hE hS h0 (by decide) rfl (q := (RX9, TX9, 22)) rfl [.int u2, .int (1 : Int32)]) rfl rfl hl.1 rfl (lv_room (Nat.le_of_ble_eq_true rfl)) dX9_pours_151 ⟨Nat.le_of_ble_eq_true rfl, Nat.le_of_ble_eq_true rfl⟩) (fun H locs hW hS => ?_)
                  have hm := hm0
                  clear hm0 hc_18
                  refine lv_isub hx hb dX9_pours_154 ?_
                  obtain ⟨w_19, σ_19, hc_19, hm0⟩ := rc_bd_inv hm
                  clear hm
                  refine rc_ci hS (va_runV (As := [.int (7 : Int32), .int ((20 : Int32) - w_18)]) (rest := []) ⟨hx, hb, hml, hown, hts⟩ (k_X9_refused l hT a0 (7 : Int32) ((20 : Int32) - w_18) h0 H.size _ _ _ hc_19) (cwV 2 hts (rc_gV tw_7_155 tw_7_157 tw_p_18 tw_1_14 tw_7_158) rfl rfl rfl (by decide +kernel) ⟨Nat.le_of_ble_eq_true rfl, Nat.le_of_ble_eq_true rfl⟩) (rc_preV hT hW hK hE hS h0 (by decide) rfl (q := (RX9, TX9, 22)) rfl [.int (7 : Int32), .int ((20 : Int32) - w_18)]) rfl rfl hl.1 rfl (lv_room (Nat.le_of_ble_eq_true rfl)) dX9_pours_155 ⟨Nat.le_of_ble_eq_true rfl, Nat.le_of_ble_eq_true rfl⟩) (fun H locs hW hS => ?_)
                  have hm := hm0
                  clear hm0 hc_19
                  exact rc_eiret hx hb hr hlocks hW hS (Nat.le_of_ble_eq_true rfl) (Nat.le_of_ble_eq_true rfl) hm dX9_pours_158
              · replace hm := rc_f hm c_23
                refine lv_aload_n hx hb dX9_pours_117 rfl (lv_at hl 1 rfl) ?_
                refine lv_bipush (v := 9) hx hb dX9_pours_118 (by decide) ?_
                refine lv_aload_n hx hb dX9_pours_120 rfl (lv_at hl 1 rfl) ?_
                refine lv_iload_n hx hb dX9_pours_121 rfl (lv_at hl 3 rfl) ?_
                refine lv_iconst (v := 3) hx hb dX9_pours_122 (by decide) ?_
                obtain ⟨w_21, σ_21, hc_21, hm0⟩ := rc_bd_inv hm
                clear hm
                refine rc_ci hS (va_runV (As := [.int u2, .int (3 : Int32)]) (rest := [.int (9 : Int32), .ref a0]) ⟨hx, hb, hml, hown, hts⟩ (k_X9_of l hT a0 u2 (3 : Int32) h0 H.size _ _ _ hc_21) (cwV 2 hts (rc_gV tw_7_163 tw_7_165 tw_p_20 tw_1_14 tw_7_166) rfl rfl rfl (by decide +kernel) ⟨Nat.le_of_ble_eq_true rfl, Nat.le_of_ble_eq_true rfl⟩) (rc_preV hT hW hK hE hS h0 (by decide) rfl (q := (RX9, TX9, 22)) rfl [.int u2, .int (3 : Int32)]) rfl rfl hl.1 rfl (lv_room (Nat.le_of_ble_eq_true rfl)) dX9_pours_123 ⟨Nat.le_of_ble_eq_true rfl, Nat.le_of_ble_eq_true rfl⟩) (fun H locs hW hS => ?_)
                have hm := hm0
                clear hm0 hc_21
                obtain ⟨w_22, σ_22, hc_22, hm0⟩ := rc_bd_inv hm
                clear hm
                refine rc_ci hS (va_runV (As := [.int (9 : Int32), .int w_21]) (rest := []) ⟨hx, hb, hml, hown, hts⟩ (k_X9_refused l hT a0 (9 : Int32) w_21 h0 H.size _ _ _ hc_22) (cwV 2 hts (rc_gV tw_7_155 tw_7_157 tw_p_18 tw_1_14 tw_7_158) rfl rfl rfl (by decide +kernel) ⟨Nat.le_of_ble_eq_true rfl, Nat.le_of_ble_eq_true rfl⟩) (rc_preV hT hW hK hE hS h0 (by decide) rfl (q := (RX9, TX9, 22)) rfl [.int (9 : Int32), .int w_21]) rfl rfl hl.1 rfl (lv_room (Nat.le_of_ble_eq_true rfl)) dX9_pours_126 ⟨Nat.le_of_ble_eq_true rfl, Nat.le_of_ble_eq_true rfl⟩) (fun H locs hW hS => ?_)
                have hm := hm0
                clear hm0 hc_22
                exact rc_eiret hx hb hr hlocks hW hS (Nat.le_of_ble_eq_true rfl) (Nat.le_of_ble_eq_true rfl) hm dX9_pours_129
            · replace hm := rc_t hm c_42
              refine lv_iconst (v := 1) hx hb dX9_pours_90 (by decide) ?_
              refine lv_goto (tgt := 95) hx hb dX9_pours_91 (by decide) ?_
              refine lv_istore (lv' := [(4, .int (1 : Int32)), (0, .ref a0), (1, .int u1), (2, .int u2), (3, .int u3)]) hx hb dX9_pours_95 hl (by decide) rfl (fun ls hl => ?_)
              refine lv_iload hx hb dX9_pours_97 (lv_at hl 0 rfl) ?_
              refine lv_if_ne (tgt := 130) hx hb dX9_pours_99 (by decide) (fun _ => ?_) (fun c9 => absurd c9 (by decide))
              refine lv_bipush (v := 20) hx hb dX9_pours_130 (by decide) ?_
              refine lv_aload_n hx hb dX9_pours_132 rfl (lv_at hl 1 rfl) ?_
              refine lv_iload_n hx hb dX9_pours_133 rfl (lv_at hl 3 rfl) ?_
              refine lv_iconst (v := 1) hx hb dX9_pours_134 (by decide) ?_
              obtain ⟨w_24, σ_24, hc_24, hm0⟩ := rc_bd_inv hm
              clear hm
              refine rc_ci hS (va_runV (As := [.int u2, .int (1 : Int32)]) (rest := [.int (20 : Int32)]) ⟨hx, hb, hml, hown, hts⟩ (k_X9_of l hT a0 u2 (1 : Int32) h0 H.size _ _ _ hc_24) (cwV 2 hts (rc_gV tw_7_163 tw_7_165 tw_p_20 tw_1_14 tw_7_166) rfl rfl rfl (by decide +kernel) ⟨Nat.le_of_ble_eq_true rfl, Nat.le_of_ble_eq_true rfl⟩) (rc_preV hT hW hK hE hS h0 (by decide) rfl (q := (RX9, TX9, 22)) rfl [.int u2, .int (1 : Int32)]) rfl rfl hl.1 rfl (lv_room (Nat.le_of_ble_eq_true rfl)) dX9_pours_135 ⟨Nat.le_of_ble_eq_true rfl, Nat.le_of_ble_eq_true rfl⟩) (fun H locs hW hS => ?_)
              have hm := hm0
              clear hm0 hc_24
              refine lv_isub hx hb dX9_pours_138 ?_
              refine lv_iload_n hx hb dX9_pours_139 rfl (lv_at hl 4 rfl) ?_
              refine lv_icmp_ge (tgt := 159) hx hb dX9_pours_140 (by decide) (fun c_41 => ?_) (fun c_41 => ?_)
              · replace hm := rc_t hm c_41
                refine lv_aload_n hx hb dX9_pours_159 rfl (lv_at hl 1 rfl) ?_
                refine lv_iload_n hx hb dX9_pours_160 rfl (lv_at hl 2 rfl) ?_
                refine lv_iload_n hx hb dX9_pours_161 rfl (lv_at hl 4 rfl) ?_
                obtain ⟨w_25, σ_25, hc_25, hm0⟩ := rc_bd_inv hm
                clear hm
                refine rc_ci hS (va_runV (As := [.int u1, .int u3]) (rest := []) ⟨hx, hb, hml, hown, hts⟩ (k_X9_hailIn l hT a0 u1 u3 h0 H.size _ _ _ hc_25) (cwV 2 hts (rc_gV tw_7_223 tw_7_225 tw_p_32 tw_1_14 tw_7_226) rfl rfl rfl (by decide +kernel) ⟨Nat.le_of_ble_eq_true rfl, Nat.le_of_ble_eq_true rfl⟩) (rc_preV hT hW hK hE hS h0 (by decide) rfl (q := (RX9, TX9, 22)) rfl [.int u1, .int u3]) rfl rfl hl.1 rfl (lv_room (Nat.le_of_ble_eq_true rfl)) dX9_pours_162 ⟨Nat.le_of_ble_eq_true rfl, Nat.le_of_ble_eq_true rfl⟩) (fun H locs hW hS => ?_)
                have hm := hm0
                clear hm0 hc_25
                refine lv_istore (lv' := [(5, .int w_25), (4, .int (1 : Int32)), (0, .ref a0), (1, .int u1), (2, .int u2), (3, .int u3)]) hx hb dX9_pours_165 hl (by decide) rfl (fun ls hl => ?_)
                refine lv_iload hx hb dX9_pours_167 (lv_at hl 1 rfl) ?_
                refine lv_if_eq (tgt := 201) hx hb dX9_pours_169 (by decide) (fun c9 => absurd c9 (by decide)) (fun _ => ?_)
                refine lv_iconst (v := 3) hx hb dX9_pours_172 (by decide) ?_
                refine lv_istore (lv' := [(6, .int (3 : Int32)), (5, .int w_25), (4, .int (1 : Int32)), (0, .ref a0), (1, .int u1), (2, .int u2), (3, .int u3)]) hx hb dX9_pours_173 hl (by decide) rfl (fun ls hl => ?_)
                refine lp_175 u1 u2 u3 w_25 _ (fun v6_30 σ_31 H locs ls hm hW hS hl => ?_) rc_fu (3 : Int32) σ_25 _ _ _ hm hW hS (lv_sub hl [3, 4, 5, 6, 1, 0] rfl)
                refine lv_aload_n hx hb dX9_pours_201 rfl (lv_at hl 0 rfl) ?_
                refine lv_iload_n hx hb dX9_pours_202 rfl (lv_at hl 2 rfl) ?_
                refine lv_iconst (v := 1) hx hb dX9_pours_203 (by decide) ?_
                refine lv_aload_n hx hb dX9_pours_204 rfl (lv_at hl 0 rfl) ?_
                refine lv_iload_n hx hb dX9_pours_205 rfl (lv_at hl 2 rfl) ?_
                refine lv_iconst (v := 1) hx hb dX9_pours_206 (by decide) ?_
                obtain ⟨w_32, σ_32, hc_32, hm0⟩ := rc_bd_inv hm
                clear hm
                refine rc_ci hS (va_runV (As := [.int u2, .int (1 : Int32)]) (rest := [.int (1 : Int32), .int u2, .ref a0]) ⟨hx, hb, hml, hown, hts⟩ (k_X9_of l hT a0 u2 (1 : Int32) h0 H.size _ _ _ hc_32) (cwV 2 hts (rc_gV tw_7_163 tw_7_165 tw_p_20 tw_1_14 tw_7_166) rfl rfl rfl (by decide +kernel) ⟨Nat.le_of_ble_eq_true rfl, Nat.le_of_ble_eq_true rfl⟩) (rc_preV hT hW hK hE hS h0 (by decide) rfl (q := (RX9, TX9, 22)) rfl [.int u2, .int (1 : Int32)]) rfl rfl hl.1 rfl (lv_room (Nat.le_of_ble_eq_true rfl)) dX9_pours_207 ⟨Nat.le_of_ble_eq_true rfl, Nat.le_of_ble_eq_true rfl⟩) (fun H locs hW hS => ?_)
                have hm := hm0
                clear hm0 hc_32
                refine lv_iload_n hx hb dX9_pours_210 rfl (lv_at hl 3 rfl) ?_
                refine lv_iadd hx hb dX9_pours_211 ?_
                obtain ⟨w_33, σ_33, hc_33, hm0⟩ := rc_bd_inv hm
                clear hm
                refine rc_cv hS (va_runV (As := [.int u2, .int (1 : Int32), .int (w_32 + u3)]) (rest := []) ⟨hx, hb, hml, hown, hts⟩ (k_X9_sets l hT a0 u2 (1 : Int32) (w_32 + u3) h0 H.size _ _ _ hc_33) (cwV 3 hts (rc_gV tw_7_171 tw_7_173 tw_p_22 tw_1_14 tw_7_174) rfl rfl rfl (by decide +kernel) ⟨Nat.le_of_ble_eq_true rfl, Nat.le_of_ble_eq_true rfl⟩) (rc_preV hT hW hK hE hS h0 (by decide) rfl (q := (RX9, TX9, 22)) rfl [.int u2, .int (1 : Int32), .int (w_32 + u3)]) rfl rfl hl.1 rfl (lv_room (Nat.le_of_ble_eq_true rfl)) dX9_pours_212 ⟨Nat.le_of_ble_eq_true rfl, Nat.le_of_ble_eq_true rfl⟩) (fun H locs hW hS => ?_)
                have hm := hm0
                clear hm0 hc_33
                refine lv_aload_n hx hb dX9_pours_215 rfl (lv_at hl 0 rfl) ?_
                refine lv_iload_n hx hb dX9_pours_216 rfl (lv_at hl 2 rfl) ?_
                refine lv_iconst (v := 2) hx hb dX9_pours_217 (by decide) ?_
                refine lv_aload_n hx hb dX9_pours_218 rfl (lv_at hl 0 rfl) ?_
                refine lv_iload_n hx hb dX9_pours_219 rfl (lv_at hl 2 rfl) ?_
                refine lv_iconst (v := 2) hx hb dX9_pours_220 (by decide) ?_
                obtain ⟨w_34, σ_34, hc_34, hm0⟩ := rc_bd_inv hm
                clear hm
                refine rc_ci hS (va_runV (As := [.int u2, .int (2 : Int32)]) (rest := [.int (2 : Int32), .int u2, .ref a0]) ⟨hx, hb, hml, hown, hts⟩ (k_X9_of l hT a0 u2 (2 : Int32) h0 H.size _ _ _ hc_34) (cwV 2 hts (rc_gV tw_7_163 tw_7_165 tw_p_20 tw_1_14 tw_7_166) rfl rfl rfl (by decide +kernel) ⟨Nat.le_of_ble_eq_true rfl, Nat.le_of_ble_eq_true rfl⟩) (rc_preV hT hW hK hE hS h0 (by decide) rfl (q := (RX9, TX9, 22)) rfl [.int u2, .int (2 : Int32)]) rfl rfl hl.1 rfl (lv_room (Nat.le_of_ble_eq_true rfl)) dX9_pours_221 ⟨Nat.le_of_ble_eq_true rfl, Nat.le_of_ble_eq_true rfl⟩) (fun H locs hW hS => ?_)
                have hm := hm0
                clear hm0 hc_34
                refine lv_iload hx hb dX9_pours_224 (lv_at hl 4 rfl) ?_
                refine lv_iadd hx hb dX9_pours_226 ?_
                obtain ⟨w_35, σ_35, hc_35, hm0⟩ := rc_bd_inv hm
                clear hm
                refine rc_cv hS (va_runV (As := [.int u2, .int (2 : Int32), .int (w_34 + w_25)]) (rest := []) ⟨hx, hb, hml, hown, hts⟩ (k_X9_sets l hT a0 u2 (2 : Int32) (w_34 + w_25) h0 H.size _ _ _ hc_35) (cwV 3 hts (rc_gV tw_7_171 tw_7_173 tw_p_22 tw_1_14 tw_7_174) rfl rfl rfl (by decide +kernel) ⟨Nat.le_of_ble_eq_true rfl, Nat.le_of_ble_eq_true rfl⟩) (rc_preV hT hW hK hE hS h0 (by decide) rfl (q := (RX9, TX9, 22)) rfl [.int u2, .int (2 : Int32), .int (w_34 + w_25)]) rfl rfl hl.1 rfl (lv_room (Nat.le_of_ble_eq_true rfl)) dX9_pours_227 ⟨Nat.le_of_ble_eq_true rfl, Nat.le_of_ble_eq_true rfl⟩) (fun H locs hW hS => ?_)
                have hm := hm0
                clear hm0 hc_35
                refine lv_aload_n hx hb dX9_pours_230 rfl (lv_at hl 0 rfl) ?_
                refine lv_iload_n hx hb dX9_pours_231 rfl (lv_at hl 1 rfl) ?_
                refine lv_iload_n hx hb dX9_pours_232 rfl (lv_at hl 3 rfl) ?_
                refine lv_iload hx hb dX9_pours_233 (lv_at hl 4 rfl) ?_
                obtain ⟨w_36, σ_36, hc_36, hm0⟩ := rc_bd_inv hm
                clear hm
                refine rc_cv hS (va_runV (As := [.int u1, .int u3, .int w_25]) (rest := []) ⟨hx, hb, hml, hown, hts⟩ (k_X9_goes l hT a0 u1 u3 w_25 h0 H.size _ _ _ hc_36) (cwV 3 hts (rc_gV tw_7_234 tw_7_236 tw_p_34 tw_1_14 tw_7_237) rfl rfl rfl (by decide +kernel) ⟨Nat.le_of_ble_eq_true rfl, Nat.le_of_ble_eq_true rfl⟩) (rc_preV hT hW hK hE hS h0 (by decide) rfl (q := (RX9, TX9, 22)) rfl [.int u1, .int u3, .int w_25]) rfl rfl hl.1 rfl (lv_room (Nat.le_of_ble_eq_true rfl)) dX9_pours_235 ⟨Nat.le_of_ble_eq_true rfl, Nat.le_of_ble_eq_true rfl⟩) (fun H locs hW hS => ?_)
                have hm := hm0
                clear hm0 hc_36
                refine lv_aload_n hx hb dX9_pours_238 rfl (lv_at hl 0 rfl) ?_
                refine lv_aload_n hx hb dX9_pours_239 rfl (lv_at hl 0 rfl) ?_
                refine lv_iload_n hx hb dX9_pours_240 rfl (lv_at hl 2 rfl) ?_
                refine lv_iconst (v := 1) hx hb dX9_pours_241 (by decide) ?_
                obtain ⟨w_37, σ_37, hc_37, hm0⟩ := rc_bd_inv hm
                clear hm
                refine rc_ci hS (va_runV (As := [.int u2, .int (1 : Int32)]) (rest := [.ref a0]) ⟨hx, hb, hml, hown, hts⟩ (k_X9_of l hT a0 u2 (1 : Int32) h0 H.size _ _ _ hc_37) (cwV 2 hts (rc_gV tw_7_163 tw_7_165 tw_p_20 tw_1_14 tw_7_166) rfl rfl rfl (by decide +kernel) ⟨Nat.le_of_ble_eq_true rfl, Nat.le_of_ble_eq_true rfl⟩) (rc_preV hT hW hK hE hS h0 (by decide) rfl (q := (RX9, TX9, 22)) rfl [.int u2, .int (1 : Int32)]) rfl rfl hl.1 rfl (lv_room (Nat.le_of_ble_eq_true rfl)) dX9_pours_242 ⟨Nat.le_of_ble_eq_true rfl, Nat.le_of_ble_eq_true rfl⟩) (fun H locs hW hS => ?_)
                have hm := hm0
                clear hm0 hc_37
                obtain ⟨w_38, σ_38, hc_38, hm0⟩ := rc_bd_inv hm
                clear hm
                refine rc_ci hS (va_runV (As := [.int w_37]) (rest := []) ⟨hx, hb, hml, hown, hts⟩ (k_X9_done l hT a0 w_37 h0 H.size _ _ _ hc_38) (cwV 1 hts (rc_gV tw_7_175 tw_7_177 tw_p_23 tw_1_14 tw_7_178) rfl rfl rfl (by decide +kernel) ⟨Nat.le_of_ble_eq_true rfl, Nat.le_of_ble_eq_true rfl⟩) (rc_preV hT hW hK hE hS h0 (by decide) rfl (q := (RX9, TX9, 22)) rfl [.int w_37]) rfl rfl hl.1 rfl (lv_room (Nat.le_of_ble_eq_true rfl)) dX9_pours_245 ⟨Nat.le_of_ble_eq_true rfl, Nat.le_of_ble_eq_true rfl⟩) (fun H locs hW hS => ?_)
                have hm := hm0
                clear hm0 hc_38
                exact rc_eiret hx hb hr hlocks hW hS (Nat.le_of_ble_eq_true rfl) (Nat.le_of_ble_eq_true rfl) hm dX9_pours_248
              · replace hm := rc_f hm c_41
                refine lv_aload_n hx hb dX9_pours_143 rfl (lv_at hl 1 rfl) ?_
                refine lv_bipush (v := 7) hx hb dX9_pours_144 (by decide) ?_
                refine lv_bipush (v := 20) hx hb dX9_pours_146 (by decide) ?_
                refine lv_aload_n hx hb dX9_pours_148 rfl (lv_at hl 1 rfl) ?_
                refine lv_iload_n hx hb dX9_pours_149 rfl (lv_at hl 3 rfl) ?_
                refine lv_iconst (v := 1) hx hb dX9_pours_150 (by decide) ?_
                obtain ⟨w_39, σ_39, hc_39, hm0⟩ := rc_bd_inv hm
                clear hm
                refine rc_ci hS (va_runV (As := [.int u2, .int (1 : Int32)]) (rest := [.int (20 : Int32), .int (7 : Int32), .ref a0]) ⟨hx, hb, hml, hown, hts⟩ (k_X9_of l hT a0 u2 (1 : Int32) h0 H.size _ _ _ hc_39) (cwV 2 hts (rc_gV tw_7_163 tw_7_165 tw_p_20 tw_1_14 tw_7_166) rfl rfl rfl (by decide +kernel) ⟨Nat.le_of_ble_eq_true rfl, Nat.le_of_ble_eq_true rfl⟩) (rc_preV hT hW hK hE hS h0 (by decide) rfl (q := (RX9, TX9, 22)) rfl [.int u2, .int (1 : Int32)]) rfl rfl hl.1 rfl (lv_room (Nat.le_of_ble_eq_true rfl)) dX9_pours_151 ⟨Nat.le_of_ble_eq_true rfl, Nat.le_of_ble_eq_true rfl⟩) (fun H locs hW hS => ?_)
                have hm := hm0
                clear hm0 hc_39
                refine lv_isub hx hb dX9_pours_154 ?_
                obtain ⟨w_40, σ_40, hc_40, hm0⟩ := rc_bd_inv hm
                clear hm
                refine rc_ci hS (va_runV (As := [.int (7 : Int32), .int ((20 : Int32) - w_39)]) (rest := []) ⟨hx, hb, hml, hown, hts⟩ (k_X9_refused l hT a0 (7 : Int32) ((20 : Int32) - w_39) h0 H.size _ _ _ hc_40) (cwV 2 hts (rc_gV tw_7_155 tw_7_157 tw_p_18 tw_1_14 tw_7_158) rfl rfl rfl (by decide +kernel) ⟨Nat.le_of_ble_eq_true rfl, Nat.le_of_ble_eq_true rfl⟩) (rc_preV hT hW hK hE hS h0 (by decide) rfl (q := (RX9, TX9, 22)) rfl [.int (7 : Int32), .int ((20 : Int32) - w_39)]) rfl rfl hl.1 rfl (lv_room (Nat.le_of_ble_eq_true rfl)) dX9_pours_155 ⟨Nat.le_of_ble_eq_true rfl, Nat.le_of_ble_eq_true rfl⟩) (fun H locs hW hS => ?_)
                have hm := hm0
                clear hm0 hc_40
                exact rc_eiret hx hb hr hlocks hW hS (Nat.le_of_ble_eq_true rfl) (Nat.le_of_ble_eq_true rfl) hm dX9_pours_158
          · replace hm := rc_f hm c_45
            refine lv_aload_n hx hb dX9_pours_68 rfl (lv_at hl 0 rfl) ?_
            refine lv_bipush (v := 6) hx hb dX9_pours_69 (by decide) ?_
            refine lv_aload_n hx hb dX9_pours_71 rfl (lv_at hl 0 rfl) ?_
            refine lv_iload_n hx hb dX9_pours_72 rfl (lv_at hl 1 rfl) ?_
            refine lv_iconst (v := 1) hx hb dX9_pours_73 (by decide) ?_
            obtain ⟨w_43, σ_43, hc_43, hm0⟩ := rc_bd_inv hm
            clear hm
            refine rc_ci hS (va_runV (As := [.int u1, .int (1 : Int32)]) (rest := [.int (6 : Int32), .ref a0]) ⟨hx, hb, hml, hown, hts⟩ (k_X9_of l hT a0 u1 (1 : Int32) h0 H.size _ _ _ hc_43) (cwV 2 hts (rc_gV tw_7_163 tw_7_165 tw_p_20 tw_1_14 tw_7_166) rfl rfl rfl (by decide +kernel) ⟨Nat.le_of_ble_eq_true rfl, Nat.le_of_ble_eq_true rfl⟩) (rc_preV hT hW hK hE hS h0 (by decide) rfl (q := (RX9, TX9, 22)) rfl [.int u1, .int (1 : Int32)]) rfl rfl hl.1 rfl (lv_room (Nat.le_of_ble_eq_true rfl)) dX9_pours_74 ⟨Nat.le_of_ble_eq_true rfl, Nat.le_of_ble_eq_true rfl⟩) (fun H locs hW hS => ?_)
            have hm := hm0
            clear hm0 hc_43
            obtain ⟨w_44, σ_44, hc_44, hm0⟩ := rc_bd_inv hm
            clear hm
            refine rc_ci hS (va_runV (As := [.int (6 : Int32), .int w_43]) (rest := []) ⟨hx, hb, hml, hown, hts⟩ (k_X9_refused l hT a0 (6 : Int32) w_43 h0 H.size _ _ _ hc_44) (cwV 2 hts (rc_gV tw_7_155 tw_7_157 tw_p_18 tw_1_14 tw_7_158) rfl rfl rfl (by decide +kernel) ⟨Nat.le_of_ble_eq_true rfl, Nat.le_of_ble_eq_true rfl⟩) (rc_preV hT hW hK hE hS h0 (by decide) rfl (q := (RX9, TX9, 22)) rfl [.int (6 : Int32), .int w_43]) rfl rfl hl.1 rfl (lv_room (Nat.le_of_ble_eq_true rfl)) dX9_pours_77 ⟨Nat.le_of_ble_eq_true rfl, Nat.le_of_ble_eq_true rfl⟩) (fun H locs hW hS => ?_)
            have hm := hm0
            clear hm0 hc_44
            exact rc_eiret hx hb hr hlocks hW hS (Nat.le_of_ble_eq_true rfl) (Nat.le_of_ble_eq_true rfl) hm dX9_pours_80
        · replace hm := rc_t hm c_47
          refine lv_aload_n hx hb dX9_pours_51 rfl (lv_at hl 0 rfl) ?_
          refine lv_iconst (v := 1) hx hb dX9_pours_52 (by decide) ?_
          refine lv_iconst (v := 0) hx hb dX9_pours_53 (by decide) ?_
          obtain ⟨w_46, σ_46, hc_46, hm0⟩ := rc_bd_inv hm
          clear hm
          refine rc_ci hS (va_runV (As := [.int (1 : Int32), .int (0 : Int32)]) (rest := []) ⟨hx, hb, hml, hown, hts⟩ (k_X9_refused l hT a0 (1 : Int32) (0 : Int32) h0 H.size _ _ _ hc_46) (cwV 2 hts (rc_gV tw_7_155 tw_7_157 tw_p_18 tw_1_14 tw_7_158) rfl rfl rfl (by decide +kernel) ⟨Nat.le_of_ble_eq_true rfl, Nat.le_of_ble_eq_true rfl⟩) (rc_preV hT hW hK hE hS h0 (by decide) rfl (q := (RX9, TX9, 22)) rfl [.int (1 : Int32), .int (0 : Int32)]) rfl rfl hl.1 rfl (lv_room (Nat.le_of_ble_eq_true rfl)) dX9_pours_54 ⟨Nat.le_of_ble_eq_true rfl, Nat.le_of_ble_eq_true rfl⟩) (fun H locs hW hS => ?_)
          have hm := hm0
          clear hm0 hc_46
          exact rc_eiret hx hb hr hlocks hW hS (Nat.le_of_ble_eq_true rfl) (Nat.le_of_ble_eq_true rfl) hm dX9_pours_57
      · replace hm := rc_t hm c_49
        refine lv_aload_n hx hb dX9_pours_33 rfl (lv_at hl 0 rfl) ?_
        refine lv_bipush (v := 8) hx hb dX9_pours_34 (by decide) ?_
        refine lv_iload_n hx hb dX9_pours_36 rfl (lv_at hl 1 rfl) ?_
        obtain ⟨w_48, σ_48, hc_48, hm0⟩ := rc_bd_inv hm
        clear hm
        refine rc_ci hS (va_runV (As := [.int (8 : Int32), .int u1]) (rest := []) ⟨hx, hb, hml, hown, hts⟩ (k_X9_refused l hT a0 (8 : Int32) u1 h0 H.size _ _ _ hc_48) (cwV 2 hts (rc_gV tw_7_155 tw_7_157 tw_p_18 tw_1_14 tw_7_158) rfl rfl rfl (by decide +kernel) ⟨Nat.le_of_ble_eq_true rfl, Nat.le_of_ble_eq_true rfl⟩) (rc_preV hT hW hK hE hS h0 (by decide) rfl (q := (RX9, TX9, 22)) rfl [.int (8 : Int32), .int u1]) rfl rfl hl.1 rfl (lv_room (Nat.le_of_ble_eq_true rfl)) dX9_pours_37 ⟨Nat.le_of_ble_eq_true rfl, Nat.le_of_ble_eq_true rfl⟩) (fun H locs hW hS => ?_)
        have hm := hm0
        clear hm0 hc_48
        exact rc_eiret hx hb hr hlocks hW hS (Nat.le_of_ble_eq_true rfl) (Nat.le_of_ble_eq_true rfl) hm dX9_pours_40
    · replace hm := rc_t hm c_51
      refine lv_aload_n hx hb dX9_pours_16 rfl (lv_at hl 0 rfl) ?_
      refine lv_iconst (v := 3) hx hb dX9_pours_17 (by decide) ?_
      refine lv_aload_n hx hb dX9_pours_18 rfl (lv_at hl 0 rfl) ?_
      refine rg_10_1 hx hb hts hown hK hW h0 tw_7_70 dX9_pours_19 ?_
      refine lv_iconst (v := 0) hx hb dX9_pours_22 (by decide) ?_
      refine rc_ialdj (j := 0) hx hb hK hW (rc_t_10_1 hT h0) (by decide) rfl (rc_inD (by decide)) (by decide) dX9_pours_23 ?_
      obtain ⟨w_50, σ_50, hc_50, hm0⟩ := rc_bd_inv hm
      clear hm
      refine rc_ci hS (va_runV (As := [.int (3 : Int32), .int (σ_3 (rf a0 1) 0)]) (rest := []) ⟨hx, hb, hml, hown, hts⟩ (k_X9_refused l hT a0 (3 : Int32) (σ_3 (rf a0 1) 0) h0 H.size _ _ _ hc_50) (cwV 2 hts (rc_gV tw_7_155 tw_7_157 tw_p_18 tw_1_14 tw_7_158) rfl rfl rfl (by decide +kernel) ⟨Nat.le_of_ble_eq_true rfl, Nat.le_of_ble_eq_true rfl⟩) (rc_preV hT hW hK hE hS h0 (by decide) rfl (q := (RX9, TX9, 22)) rfl [.int (3 : Int32), .int (σ_3 (rf a0 1) 0)]) rfl rfl hl.1 rfl (lv_room (Nat.le_of_ble_eq_true rfl)) dX9_pours_24 ⟨Nat.le_of_ble_eq_true rfl, Nat.le_of_ble_eq_true rfl⟩) (fun H locs hW hS => ?_)
      have hm := hm0
      clear hm0 hc_50
      exact rc_eiret hx hb hr hlocks hW hS (Nat.le_of_ble_eq_true rfl) (Nat.le_of_ble_eq_true rfl) hm dX9_pours_27
set_option maxHeartbeats 4000000 in
set_option maxRecDepth 100000 in
theorem k_X9_adulterates (l : Launch) {Y : rc_Y} {sh : Nat → Nat} {rf : rc_F} (hT : rc_T Y sh rf) (a0 : Nat) (u1 : Int32) (u2 : Int32) (h0 : sh a0 = 10) (sz : Nat) (σ σ' : rc_S) (r : Int32) (hm : f_X9_adulterates rf a0 u1 u2 σ = some (r, σ')) : Met l yX9_adulterates (Cond.code yX9_adulterates cX9_adulterates 3 (some .int) :: rc_big) ({ frames := 2, cells := 0, slots := 0, locals := 43 } : Room) (rc_P Y sh rf σ sz [.ref a0, .int u1, .int u2]) (va_Qi (fun (r' : Int32) (_ : Unit) => r' = r) (fun _ t => rc_W Y sh rf σ' t.heap) (rc_A sh sz)) 0 0 (rc_A sh sz) := by
  refine Met.ofW (cc := cX9_adulterates) (maxL := 3) (ret := (some .int)) (by decide +kernel) rfl ?_
  intro p e s m args below meth c s₁ B hml hv
  obtain ⟨rfl, hsz, hW, hK, hE⟩ := hv
  have hx := B.exec
  have hb := B.bytes
  have hr := B.returns
  have hts : ∀ w ∈ rc_big, w.before _ s = true := fun w h => atoms_spec (ws := Cond.code yX9_adulterates cX9_adulterates 3 (some .int) :: rc_big) B.pre w (List.mem_cons_of_mem _ h)
  have hown : s.vm.findClass RX9 = some m.cls := findClass_of_methodNamed B.named
  have hlocks := B.notSynchronized
  clear B
  subst hsz
  have hS : va_S (rc_A sh s.heap.size) s.heap s.heap [] := va_S.rf
  have hl := lv_entry ([.ref a0, .int u1, .int u2]) (n := 3) (Nat.le_of_ble_eq_true rfl)
  rw [lg_entry_eq]
  generalize (lg_sl ([.ref a0, .int u1, .int u2]) ++ List.replicate (3 - (lg_sl ([.ref a0, .int u1, .int u2])).length) Slot.unset).toArray = ls at hl ⊢
  have hl : lv_has ls 3 [(0, .ref a0), (1, .int u1), (2, .int u2)] := hl
  unfold f_X9_adulterates at hm
  refine lv_aload_n hx hb dX9_adulterates_0 rfl (lv_at hl 0 rfl) ?_
  refine lv_iload_n hx hb dX9_adulterates_1 rfl (lv_at hl 1 rfl) ?_
  obtain ⟨w_1, σ_1, hc_1, hm0⟩ := rc_bd_inv hm
  clear hm
  refine rc_ci hS (va_runV (As := [.int u1]) (rest := []) ⟨hx, hb, hml, hown, hts⟩ (k_X9_isBarrel l hT a0 u1 h0 s.heap.size _ _ _ hc_1) (cwV 1 hts (rc_gV tw_7_211 tw_7_213 tw_p_30 tw_1_14 tw_7_214) rfl rfl rfl (by decide +kernel) ⟨Nat.le_of_ble_eq_true rfl, Nat.le_of_ble_eq_true rfl⟩) (rc_preV hT hW hK hE hS h0 (by decide) rfl (q := (RX9, TX9, 22)) rfl [.int u1]) rfl rfl hl.1 rfl (lv_room (Nat.le_of_ble_eq_true rfl)) dX9_adulterates_2 ⟨Nat.le_of_ble_eq_true rfl, Nat.le_of_ble_eq_true rfl⟩) (fun H locs hW hS => ?_)
  have hm := hm0
  clear hm0 hc_1
  refine lv_if_ne (tgt := 20) hx hb dX9_adulterates_5 (by decide) (fun c_23 => ?_) (fun c_23 => ?_)
  · replace hm := rc_f hm c_23
    refine lv_iload_n hx hb dX9_adulterates_20 rfl (lv_at hl 2 rfl) ?_
    refine lv_iconst (v := 1) hx hb dX9_adulterates_21 (by decide) ?_
    refine lv_bipush (v := 9) hx hb dX9_adulterates_22 (by decide) ?_
    obtain ⟨w_2, σ_2, hc_2, hm0⟩ := rc_bd_inv hm
    clear hm
    refine rc_ci hS (va_runS (As := [.int u2, .int (1 : Int32), .int (9 : Int32)]) (rest := []) ⟨hx, hb, hml, hown, hts⟩ (k_X9_in l hT u2 (1 : Int32) (9 : Int32)  H.size _ _ _ hc_2) (va_cwS 3 hts (rc_gS tw_7_152 tw_7_153 tw_1_14 tw_7_154) rfl rfl rfl (by decide +kernel) ⟨Nat.le_of_ble_eq_true rfl, Nat.le_of_ble_eq_true rfl⟩) (rc_preS hT hW hK hE hS [.int u2, .int (1 : Int32), .int (9 : Int32)]) rfl rfl hl.1 rfl (lv_room (Nat.le_of_ble_eq_true rfl)) dX9_adulterates_24 ⟨Nat.le_of_ble_eq_true rfl, Nat.le_of_ble_eq_true rfl⟩) (fun H locs hW hS => ?_)
    have hm := hm0
    clear hm0 hc_2
    refine lv_if_ne (tgt := 37) hx hb dX9_adulterates_27 (by decide) (fun c_21 => ?_) (fun c_21 => ?_)
    · replace hm := rc_f hm c_21
      refine lv_aload_n hx hb dX9_adulterates_37 rfl (lv_at hl 0 rfl) ?_
      refine lv_iload_n hx hb dX9_adulterates_38 rfl (lv_at hl 1 rfl) ?_
      refine lv_iconst (v := 1) hx hb dX9_adulterates_39 (by decide) ?_
      obtain ⟨w_3, σ_3, hc_3, hm0⟩ := rc_bd_inv hm
      clear hm
      refine rc_ci hS (va_runV (As := [.int u1, .int (1 : Int32)]) (rest := []) ⟨hx, hb, hml, hown, hts⟩ (k_X9_of l hT a0 u1 (1 : Int32) h0 H.size _ _ _ hc_3) (cwV 2 hts (rc_gV tw_7_163 tw_7_165 tw_p_20 tw_1_14 tw_7_166) rfl rfl rfl (by decide +kernel) ⟨Nat.le_of_ble_eq_true rfl, Nat.le_of_ble_eq_true rfl⟩) (rc_preV hT hW hK hE hS h0 (by decide) rfl (q := (RX9, TX9, 22)) rfl [.int u1, .int (1 : Int32)]) rfl rfl hl.1 rfl (lv_room (Nat.le_of_ble_eq_true rfl)) dX9_adulterates_40 ⟨Nat.le_of_ble_eq_true rfl, Nat.le_of_ble_eq_true rfl⟩) (fun H locs hW hS => ?_)
      have hm := hm0
      clear hm0 hc_3
      refine lv_if_ne (tgt := 54) hx hb dX9_adulterates_43 (by decide) (fun c_19 => ?_) (fun c_19 => ?_)
      · replace hm := rc_f hm c_19
        refine lv_aload_n hx hb dX9_adulterates_54 rfl (lv_at hl 0 rfl) ?_
        refine rg_10_1 hx hb hts hown hK hW h0 tw_7_70 dX9_adulterates_55 ?_
        refine lv_iconst (v := 2) hx hb dX9_adulterates_58 (by decide) ?_
        refine rc_ialdj (j := 2) hx hb hK hW (rc_t_10_1 hT h0) (by decide) rfl (rc_inD (by decide)) (by decide) dX9_adulterates_59 ?_
        refine lv_iload_n hx hb dX9_adulterates_60 rfl (lv_at hl 2 rfl) ?_
        refine lv_icmp_ge (tgt := 77) hx hb dX9_adulterates_61 (by decide) (fun c_17 => ?_) (fun c_17 => ?_)
        · replace hm := rc_t hm c_17
          refine lv_bipush (v := 20) hx hb dX9_adulterates_77 (by decide) ?_
          refine lv_aload_n hx hb dX9_adulterates_79 rfl (lv_at hl 0 rfl) ?_
          refine lv_iload_n hx hb dX9_adulterates_80 rfl (lv_at hl 1 rfl) ?_
          refine lv_iconst (v := 1) hx hb dX9_adulterates_81 (by decide) ?_
          obtain ⟨w_4, σ_4, hc_4, hm0⟩ := rc_bd_inv hm
          clear hm
          refine rc_ci hS (va_runV (As := [.int u1, .int (1 : Int32)]) (rest := [.int (20 : Int32)]) ⟨hx, hb, hml, hown, hts⟩ (k_X9_of l hT a0 u1 (1 : Int32) h0 H.size _ _ _ hc_4) (cwV 2 hts (rc_gV tw_7_163 tw_7_165 tw_p_20 tw_1_14 tw_7_166) rfl rfl rfl (by decide +kernel) ⟨Nat.le_of_ble_eq_true rfl, Nat.le_of_ble_eq_true rfl⟩) (rc_preV hT hW hK hE hS h0 (by decide) rfl (q := (RX9, TX9, 22)) rfl [.int u1, .int (1 : Int32)]) rfl rfl hl.1 rfl (lv_room (Nat.le_of_ble_eq_true rfl)) dX9_adulterates_82 ⟨Nat.le_of_ble_eq_true rfl, Nat.le_of_ble_eq_true rfl⟩) (fun H locs hW hS => ?_)
          have hm := hm0
          clear hm0 hc_4
          refine lv_isub hx hb dX9_adulterates_85 ?_
          refine lv_iload_n hx hb dX9_adulterates_86 rfl (lv_at hl 2 rfl) ?_
          refine lv_icmp_ge (tgt := 106) hx hb dX9_adulterates_87 (by decide) (fun c_15 => ?_) (fun c_15 => ?_)
          · replace hm := rc_t hm c_15
            refine lv_aload_n hx hb dX9_adulterates_106 rfl (lv_at hl 0 rfl) ?_
            refine rg_10_1 hx hb hts hown hK hW h0 tw_7_70 dX9_adulterates_107 ?_
            refine lv_iconst (v := 2) hx hb dX9_adulterates_110 (by decide) ?_
            refine lv_dup2_11 hx hb dX9_adulterates_111 rfl rfl ?_
            refine rc_ialdj (j := 2) hx hb hK hW (rc_t_10_1 hT h0) (by decide) rfl (rc_inD (by decide)) (by decide) dX9_adulterates_112 ?_
            refine lv_iload_n hx hb dX9_adulterates_113 rfl (lv_at hl 2 rfl) ?_
            refine lv_isub hx hb dX9_adulterates_114 ?_
            refine rc_iastj (j := 2) hx hb hK hW hS (rc_t_10_1 hT h0) (by decide) (fun _ => rfl) (rc_inD (by decide)) (by decide) dX9_adulterates_115 (fun σ_5 H locs eσ hW hS => ?_)
            replace hm := rc_lt_at hm eσ
            clear eσ
            refine lv_aload_n hx hb dX9_adulterates_116 rfl (lv_at hl 0 rfl) ?_
            refine rg_10_1 hx hb hts hown hK hW h0 tw_7_70 dX9_adulterates_117 ?_
            refine lv_bipush (v := 6) hx hb dX9_adulterates_120 (by decide) ?_
            refine lv_dup2_11 hx hb dX9_adulterates_122 rfl rfl ?_
            refine rc_ialdj (j := 6) hx hb hK hW (rc_t_10_1 hT h0) (by decide) rfl (rc_inD (by decide)) (by decide) dX9_adulterates_123 ?_
            refine lv_iload_n hx hb dX9_adulterates_124 rfl (lv_at hl 2 rfl) ?_
            refine lv_iadd hx hb dX9_adulterates_125 ?_
            refine rc_iastj (j := 6) hx hb hK hW hS (rc_t_10_1 hT h0) (by decide) (fun _ => rfl) (rc_inD (by decide)) (by decide) dX9_adulterates_126 (fun σ_6 H locs eσ hW hS => ?_)
            replace hm := rc_lt_at hm eσ
            clear eσ
            refine lv_aload_n hx hb dX9_adulterates_127 rfl (lv_at hl 0 rfl) ?_
            refine lv_iload_n hx hb dX9_adulterates_128 rfl (lv_at hl 1 rfl) ?_
            refine lv_iconst (v := 1) hx hb dX9_adulterates_129 (by decide) ?_
            refine lv_aload_n hx hb dX9_adulterates_130 rfl (lv_at hl 0 rfl) ?_
            refine lv_iload_n hx hb dX9_adulterates_131 rfl (lv_at hl 1 rfl) ?_
            refine lv_iconst (v := 1) hx hb dX9_adulterates_132 (by decide) ?_
            obtain ⟨w_7, σ_7, hc_7, hm0⟩ := rc_bd_inv hm
            clear hm
            refine rc_ci hS (va_runV (As := [.int u1, .int (1 : Int32)]) (rest := [.int (1 : Int32), .int u1, .ref a0]) ⟨hx, hb, hml, hown, hts⟩ (k_X9_of l hT a0 u1 (1 : Int32) h0 H.size _ _ _ hc_7) (cwV 2 hts (rc_gV tw_7_163 tw_7_165 tw_p_20 tw_1_14 tw_7_166) rfl rfl rfl (by decide +kernel) ⟨Nat.le_of_ble_eq_true rfl, Nat.le_of_ble_eq_true rfl⟩) (rc_preV hT hW hK hE hS h0 (by decide) rfl (q := (RX9, TX9, 22)) rfl [.int u1, .int (1 : Int32)]) rfl rfl hl.1 rfl (lv_room (Nat.le_of_ble_eq_true rfl)) dX9_adulterates_133 ⟨Nat.le_of_ble_eq_true rfl, Nat.le_of_ble_eq_true rfl⟩) (fun H locs hW hS => ?_)
            have hm := hm0
            clear hm0 hc_7
            refine lv_iload_n hx hb dX9_adulterates_136 rfl (lv_at hl 2 rfl) ?_
            refine lv_iadd hx hb dX9_adulterates_137 ?_
            obtain ⟨w_8, σ_8, hc_8, hm0⟩ := rc_bd_inv hm
            clear hm
            refine rc_cv hS (va_runV (As := [.int u1, .int (1 : Int32), .int (w_7 + u2)]) (rest := []) ⟨hx, hb, hml, hown, hts⟩ (k_X9_sets l hT a0 u1 (1 : Int32) (w_7 + u2) h0 H.size _ _ _ hc_8) (cwV 3 hts (rc_gV tw_7_171 tw_7_173 tw_p_22 tw_1_14 tw_7_174) rfl rfl rfl (by decide +kernel) ⟨Nat.le_of_ble_eq_true rfl, Nat.le_of_ble_eq_true rfl⟩) (rc_preV hT hW hK hE hS h0 (by decide) rfl (q := (RX9, TX9, 22)) rfl [.int u1, .int (1 : Int32), .int (w_7 + u2)]) rfl rfl hl.1 rfl (lv_room (Nat.le_of_ble_eq_true rfl)) dX9_adulterates_138 ⟨Nat.le_of_ble_eq_true rfl, Nat.le_of_ble_eq_true rfl⟩) (fun H locs hW hS => ?_)
            have hm := hm0
            clear hm0 hc_8
            refine lv_aload_n hx hb dX9_adulterates_141 rfl (lv_at hl 0 rfl) ?_
            refine lv_iload_n hx hb dX9_adulterates_142 rfl (lv_at hl 1 rfl) ?_
            refine lv_iconst (v := 2) hx hb dX9_adulterates_143 (by decide) ?_
            refine lv_aload_n hx hb dX9_adulterates_144 rfl (lv_at hl 0 rfl) ?_
            refine lv_iload_n hx hb dX9_adulterates_145 rfl (lv_at hl 1 rfl) ?_
            refine lv_iconst (v := 2) hx hb dX9_adulterates_146 (by decide) ?_
            obtain ⟨w_9, σ_9, hc_9, hm0⟩ := rc_bd_inv hm
            clear hm
            refine rc_ci hS (va_runV (As := [.int u1, .int (2 : Int32)]) (rest := [.int (2 : Int32), .int u1, .ref a0]) ⟨hx, hb, hml, hown, hts⟩ (k_X9_of l hT a0 u1 (2 : Int32) h0 H.size _ _ _ hc_9) (cwV 2 hts (rc_gV tw_7_163 tw_7_165 tw_p_20 tw_1_14 tw_7_166) rfl rfl rfl (by decide +kernel) ⟨Nat.le_of_ble_eq_true rfl, Nat.le_of_ble_eq_true rfl⟩) (rc_preV hT hW hK hE hS h0 (by decide) rfl (q := (RX9, TX9, 22)) rfl [.int u1, .int (2 : Int32)]) rfl rfl hl.1 rfl (lv_room (Nat.le_of_ble_eq_true rfl)) dX9_adulterates_147 ⟨Nat.le_of_ble_eq_true rfl, Nat.le_of_ble_eq_true rfl⟩) (fun H locs hW hS => ?_)
            have hm := hm0
            clear hm0 hc_9
            refine lv_iload_n hx hb dX9_adulterates_150 rfl (lv_at hl 2 rfl) ?_
            refine lv_iadd hx hb dX9_adulterates_151 ?_
            obtain ⟨w_10, σ_10, hc_10, hm0⟩ := rc_bd_inv hm
            clear hm
            refine rc_cv hS (va_runV (As := [.int u1, .int (2 : Int32), .int (w_9 + u2)]) (rest := []) ⟨hx, hb, hml, hown, hts⟩ (k_X9_sets l hT a0 u1 (2 : Int32) (w_9 + u2) h0 H.size _ _ _ hc_10) (cwV 3 hts (rc_gV tw_7_171 tw_7_173 tw_p_22 tw_1_14 tw_7_174) rfl rfl rfl (by decide +kernel) ⟨Nat.le_of_ble_eq_true rfl, Nat.le_of_ble_eq_true rfl⟩) (rc_preV hT hW hK hE hS h0 (by decide) rfl (q := (RX9, TX9, 22)) rfl [.int u1, .int (2 : Int32), .int (w_9 + u2)]) rfl rfl hl.1 rfl (lv_room (Nat.le_of_ble_eq_true rfl)) dX9_adulterates_152 ⟨Nat.le_of_ble_eq_true rfl, Nat.le_of_ble_eq_true rfl⟩) (fun H locs hW hS => ?_)
            have hm := hm0
            clear hm0 hc_10
            refine lv_aload_n hx hb dX9_adulterates_155 rfl (lv_at hl 0 rfl) ?_
            refine lv_aload_n hx hb dX9_adulterates_156 rfl (lv_at hl 0 rfl) ?_
            refine lv_iload_n hx hb dX9_adulterates_157 rfl (lv_at hl 1 rfl) ?_
            obtain ⟨w_11, σ_11, hc_11, hm0⟩ := rc_bd_inv hm
            clear hm
            refine rc_ci hS (va_runV (As := [.int u1]) (rest := [.ref a0]) ⟨hx, hb, hml, hown, hts⟩ (k_X9_part l hT a0 u1 h0 H.size _ _ _ hc_11) (cwV 1 hts (rc_gV tw_7_227 tw_7_229 tw_p_33 tw_1_14 tw_7_230) rfl rfl rfl (by decide +kernel) ⟨Nat.le_of_ble_eq_true rfl, Nat.le_of_ble_eq_true rfl⟩) (rc_preV hT hW hK hE hS h0 (by decide) rfl (q := (RX9, TX9, 22)) rfl [.int u1]) rfl rfl hl.1 rfl (lv_room (Nat.le_of_ble_eq_true rfl)) dX9_adulterates_158 ⟨Nat.le_of_ble_eq_true rfl, Nat.le_of_ble_eq_true rfl⟩) (fun H locs hW hS => ?_)
            have hm := hm0
            clear hm0 hc_11
            obtain ⟨w_12, σ_12, hc_12, hm0⟩ := rc_bd_inv hm
            clear hm
            refine rc_ci hS (va_runV (As := [.int w_11]) (rest := []) ⟨hx, hb, hml, hown, hts⟩ (k_X9_done l hT a0 w_11 h0 H.size _ _ _ hc_12) (cwV 1 hts (rc_gV tw_7_175 tw_7_177 tw_p_23 tw_1_14 tw_7_178) rfl rfl rfl (by decide +kernel) ⟨Nat.le_of_ble_eq_true rfl, Nat.le_of_ble_eq_true rfl⟩) (rc_preV hT hW hK hE hS h0 (by decide) rfl (q := (RX9, TX9, 22)) rfl [.int w_11]) rfl rfl hl.1 rfl (lv_room (Nat.le_of_ble_eq_true rfl)) dX9_adulterates_161 ⟨Nat.le_of_ble_eq_true rfl, Nat.le_of_ble_eq_true rfl⟩) (fun H locs hW hS => ?_)
            have hm := hm0
            clear hm0 hc_12
            exact rc_eiret hx hb hr hlocks hW hS (Nat.le_of_ble_eq_true rfl) (Nat.le_of_ble_eq_true rfl) hm dX9_adulterates_164
          · replace hm := rc_f hm c_15
            refine lv_aload_n hx hb dX9_adulterates_90 rfl (lv_at hl 0 rfl) ?_
            refine lv_bipush (v := 7) hx hb dX9_adulterates_91 (by decide) ?_
            refine lv_bipush (v := 20) hx hb dX9_adulterates_93 (by decide) ?_
            refine lv_aload_n hx hb dX9_adulterates_95 rfl (lv_at hl 0 rfl) ?_
            refine lv_iload_n hx hb dX9_adulterates_96 rfl (lv_at hl 1 rfl) ?_
            refine lv_iconst (v := 1) hx hb dX9_adulterates_97 (by decide) ?_
            obtain ⟨w_13, σ_13, hc_13, hm0⟩ := rc_bd_inv hm
            clear hm
            refine rc_ci hS (va_runV (As := [.int u1, .int (1 : Int32)]) (rest := [.int (20 : Int32), .int (7 : Int32), .ref a0]) ⟨hx, hb, hml, hown, hts⟩ (k_X9_of l hT a0 u1 (1 : Int32) h0 H.size _ _ _ hc_13) (cwV 2 hts (rc_gV tw_7_163 tw_7_165 tw_p_20 tw_1_14 tw_7_166) rfl rfl rfl (by decide +kernel) ⟨Nat.le_of_ble_eq_true rfl, Nat.le_of_ble_eq_true rfl⟩) (rc_preV hT hW hK hE hS h0 (by decide) rfl (q := (RX9, TX9, 22)) rfl [.int u1, .int (1 : Int32)]) rfl rfl hl.1 rfl (lv_room (Nat.le_of_ble_eq_true rfl)) dX9_adulterates_98 ⟨Nat.le_of_ble_eq_true rfl, Nat.le_of_ble_eq_true rfl⟩) (fun H locs hW hS => ?_)
            have hm := hm0
            clear hm0 hc_13
            refine lv_isub hx hb dX9_adulterates_101 ?_
            obtain ⟨w_14, σ_14, hc_14, hm0⟩ := rc_bd_inv hm
            clear hm
            refine rc_ci hS (va_runV (As := [.int (7 : Int32), .int ((20 : Int32) - w_13)]) (rest := []) ⟨hx, hb, hml, hown, hts⟩ (k_X9_refused l hT a0 (7 : Int32) ((20 : Int32) - w_13) h0 H.size _ _ _ hc_14) (cwV 2 hts (rc_gV tw_7_155 tw_7_157 tw_p_18 tw_1_14 tw_7_158) rfl rfl rfl (by decide +kernel) ⟨Nat.le_of_ble_eq_true rfl, Nat.le_of_ble_eq_true rfl⟩) (rc_preV hT hW hK hE hS h0 (by decide) rfl (q := (RX9, TX9, 22)) rfl [.int (7 : Int32), .int ((20 : Int32) - w_13)]) rfl rfl hl.1 rfl (lv_room (Nat.le_of_ble_eq_true rfl)) dX9_adulterates_102 ⟨Nat.le_of_ble_eq_true rfl, Nat.le_of_ble_eq_true rfl⟩) (fun H locs hW hS => ?_)
            have hm := hm0
            clear hm0 hc_14
            exact rc_eiret hx hb hr hlocks hW hS (Nat.le_of_ble_eq_true rfl) (Nat.le_of_ble_eq_true rfl) hm dX9_adulterates_105
        · replace hm := rc_f hm c_17
          refine lv_aload_n hx hb dX9_adulterates_64 rfl (lv_at hl 0 rfl) ?_
          refine lv_bipush (v := 10) hx hb dX9_adulterates_65 (by decide) ?_
          refine lv_aload_n hx hb dX9_adulterates_67 rfl (lv_at hl 0 rfl) ?_
          refine rg_10_1 hx hb hts hown hK hW h0 tw_7_70 dX9_adulterates_68 ?_
          refine lv_iconst (v := 2) hx hb dX9_adulterates_71 (by decide) ?_
          refine rc_ialdj (j := 2) hx hb hK hW (rc_t_10_1 hT h0) (by decide) rfl (rc_inD (by decide)) (by decide) dX9_adulterates_72 ?_
          obtain ⟨w_16, σ_16, hc_16, hm0⟩ := rc_bd_inv hm
          clear hm
          refine rc_ci hS (va_runV (As := [.int (10 : Int32), .int (σ_3 (rf a0 1) 2)]) (rest := []) ⟨hx, hb, hml, hown, hts⟩ (k_X9_refused l hT a0 (10 : Int32) (σ_3 (rf a0 1) 2) h0 H.size _ _ _ hc_16) (cwV 2 hts (rc_gV tw_7_155 tw_7_157 tw_p_18 tw_1_14 tw_7_158) rfl rfl rfl (by decide +kernel) ⟨Nat.le_of_ble_eq_true rfl, Nat.le_of_ble_eq_true rfl⟩) (rc_preV hT hW hK hE hS h0 (by decide) rfl (q := (RX9, TX9, 22)) rfl [.int (10 : Int32), .int (σ_3 (rf a0 1) 2)]) rfl rfl hl.1 rfl (lv_room (Nat.le_of_ble_eq_true rfl)) dX9_adulterates_73 ⟨Nat.le_of_ble_eq_true rfl, Nat.le_of_ble_eq_true rfl⟩) (fun H locs hW hS => ?_)
          have hm := hm0
          clear hm0 hc_16
          exact rc_eiret hx hb hr hlocks hW hS (Nat.le_of_ble_eq_true rfl) (Nat.le_of_ble_eq_true rfl) hm dX9_adulterates_76
      · replace hm := rc_t hm c_19
        refine lv_aload_n hx hb dX9_adulterates_46 rfl (lv_at hl 0 rfl) ?_
        refine lv_bipush (v := 6) hx hb dX9_adulterates_47 (by decide) ?_
        refine lv_iconst (v := 0) hx hb dX9_adulterates_49 (by decide) ?_
        obtain ⟨w_18, σ_18, hc_18, hm0⟩ := rc_bd_inv hm
        clear hm
        refine rc_ci hS (va_runV (As := [.int (6 : Int32), .int (0 : Int32)]) (rest := []) ⟨hx, hb, hml, hown, hts⟩ (k_X9_refused l hT a0 (6 : Int32) (0 : Int32) h0 H.size _ _ _ hc_18) (cwV 2 hts (rc_gV tw_7_155 tw_7_157 tw_p_18 tw_1_14 tw_7_158) rfl rfl rfl (by decide +kernel) ⟨Nat.le_of_ble_eq_true rfl, Nat.le_of_ble_eq_true rfl⟩) (rc_preV hT hW hK hE hS h0 (by decide) rfl (q := (RX9, TX9, 22)) rfl [.int (6 : Int32), .int (0 : Int32)]) rfl rfl hl.1 rfl (lv_room (Nat.le_of_ble_eq_true rfl)) dX9_adulterates_50 ⟨Nat.le_of_ble_eq_true rfl, Nat.le_of_ble_eq_true rfl⟩) (fun H locs hW hS => ?_)
        have hm := hm0
        clear hm0 hc_18
        exact rc_eiret hx hb hr hlocks hW hS (Nat.le_of_ble_eq_true rfl) (Nat.le_of_ble_eq_true rfl) hm dX9_adulterates_53
    · replace hm := rc_t hm c_21
      refine lv_aload_n hx hb dX9_adulterates_30 rfl (lv_at hl 0 rfl) ?_
      refine lv_iconst (v := 1) hx hb dX9_adulterates_31 (by decide) ?_
      refine lv_iconst (v := 0) hx hb dX9_adulterates_32 (by decide) ?_
      obtain ⟨w_20, σ_20, hc_20, hm0⟩ := rc_bd_inv hm
      clear hm
      refine rc_ci hS (va_runV (As := [.int (1 : Int32), .int (0 : Int32)]) (rest := []) ⟨hx, hb, hml, hown, hts⟩ (k_X9_refused l hT a0 (1 : Int32) (0 : Int32) h0 H.size _ _ _ hc_20) (cwV 2 hts (rc_gV tw_7_155 tw_7_157 tw_p_18 tw_1_14 tw_7_158) rfl rfl rfl (by decide +kernel) ⟨Nat.le_of_ble_eq_true rfl, Nat.le_of_ble_eq_true rfl⟩) (rc_preV hT hW hK hE hS h0 (by decide) rfl (q := (RX9, TX9, 22)) rfl [.int (1 : Int32), .int (0 : Int32)]) rfl rfl hl.1 rfl (lv_room (Nat.le_of_ble_eq_true rfl)) dX9_adulterates_33 ⟨Nat.le_of_ble_eq_true rfl, Nat.le_of_ble_eq_true rfl⟩) (fun H locs hW hS => ?_)
      have hm := hm0
      clear hm0 hc_20
      exact rc_eiret hx hb hr hlocks hW hS (Nat.le_of_ble_eq_true rfl) (Nat.le_of_ble_eq_true rfl) hm dX9_adulterates_36
  · replace hm := rc_t hm c_23
    refine lv_aload_n hx hb dX9_adulterates_8 rfl (lv_at hl 0 rfl) ?_
    refine lv_iconst (v := 3) hx hb dX9_adulterates_9 (by decide) ?_
    refine lv_aload_n hx hb dX9_adulterates_10 rfl (lv_at hl 0 rfl) ?_
    refine rg_10_1 hx hb hts hown hK hW h0 tw_7_70 dX9_adulterates_11 ?_
    refine lv_iconst (v := 0) hx hb dX9_adulterates_14 (by decide) ?_
    refine rc_ialdj (j := 0) hx hb hK hW (rc_t_10_1 hT h0) (by decide) rfl (rc_inD (by decide)) (by decide) dX9_adulterates_15 ?_
    obtain ⟨w_22, σ_22, hc_22, hm0⟩ := rc_bd_inv hm
    clear hm
    refine rc_ci hS (va_runV (As := [.int (3 : Int32), .int (σ_1 (rf a0 1) 0)]) (rest := []) ⟨hx, hb, hml, hown, hts⟩ (k_X9_refused l hT a0 (3 : Int32) (σ_1 (rf a0 1) 0) h0 H.size _ _ _ hc_22) (cwV 2 hts (rc_gV tw_7_155 tw_7_157 tw_p_18 tw_1_14 tw_7_158) rfl rfl rfl (by decide +kernel) ⟨Nat.le_of_ble_eq_true rfl, Nat.le_of_ble_eq_true rfl⟩) (rc_preV hT hW hK hE hS h0 (by decide) rfl (q := (RX9, TX9, 22)) rfl [.int (3 : Int32), .int (σ_1 (rf a0 1) 0)]) rfl rfl hl.1 rfl (lv_room (Nat.le_of_ble_eq_true rfl)) dX9_adulterates_16 ⟨Nat.le_of_ble_eq_true rfl, Nat.le_of_ble_eq_true rfl⟩) (fun H locs hW hS => ?_)
    have hm := hm0
    clear hm0 hc_22
    exact rc_eiret hx hb hr hlocks hW hS (Nat.le_of_ble_eq_true rfl) (Nat.le_of_ble_eq_true rfl) hm dX9_adulterates_19
set_option maxHeartbeats 4000000 in
set_option maxRecDepth 100000 in
theorem k_X9_joins (l : Launch) {Y : rc_Y} {sh : Nat → Nat} {rf : rc_F} (hT : rc_T Y sh rf) (a0 : Nat) (u1 : Int32) (u2 : Int32) (h0 : sh a0 = 10) (sz : Nat) (σ σ' : rc_S) (r : Int32) (hm : f_X9_joins rf a0 u1 u2 σ = some (r, σ')) : Met l yX9_joins (Cond.code yX9_joins cX9_joins 4 (some .int) :: rc_big) ({ frames := 1, cells := 0, slots := 0, locals := 22 } : Room) (rc_P Y sh rf σ sz [.ref a0, .int u1, .int u2]) (va_Qi (fun (r' : Int32) (_ : Unit) => r' = r) (fun _ t => rc_W Y sh rf σ' t.heap) (rc_A sh sz)) 0 0 (rc_A sh sz) := by
  refine Met.ofW (cc := cX9_joins) (maxL := 4) (ret := (some .int)) (by decide +kernel) rfl ?_
  intro p e s m args below meth c s₁ B hml hv
  obtain ⟨rfl, hsz, hW, hK, hE⟩ := hv
  have hx := B.exec
  have hb := B.bytes
  have hr := B.returns
  have hts : ∀ w ∈ rc_big, w.before _ s = true := fun w h => atoms_spec (ws := Cond.code yX9_joins cX9_joins 4 (some .int) :: rc_big) B.pre w (List.mem_cons_of_mem _ h)
  have hown : s.vm.findClass RX9 = some m.cls := findClass_of_methodNamed B.named
  have hlocks := B.notSynchronized
  clear B
  subst hsz
  have hS : va_S (rc_A sh s.heap.size) s.heap s.heap [] := va_S.rf
  have hl := lv_entry ([.ref a0, .int u1, .int u2]) (n := 4) (Nat.le_of_ble_eq_true rfl)
  rw [lg_entry_eq]
  generalize (lg_sl ([.ref a0, .int u1, .int u2]) ++ List.replicate (4 - (lg_sl ([.ref a0, .int u1, .int u2])).length) Slot.unset).toArray = ls at hl ⊢
  have hl : lv_has ls 4 [(0, .ref a0), (1, .int u1), (2, .int u2)] := hl
  unfold f_X9_joins at hm
  refine lv_iload_n hx hb dX9_joins_0 rfl (lv_at hl 1 rfl) ?_
  refine lv_iconst (v := 0) hx hb dX9_joins_1 (by decide) ?_
  refine lv_bipush (v := 9) hx hb dX9_joins_2 (by decide) ?_
  obtain ⟨w_1, σ_1, hc_1, hm0⟩ := rc_bd_inv hm
  clear hm
  refine rc_ci hS (va_runS (As := [.int u1, .int (0 : Int32), .int (9 : Int32)]) (rest := []) ⟨hx, hb, hml, hown, hts⟩ (k_X9_in l hT u1 (0 : Int32) (9 : Int32)  s.heap.size _ _ _ hc_1) (va_cwS 3 hts (rc_gS tw_7_152 tw_7_153 tw_1_14 tw_7_154) rfl rfl rfl (by decide +kernel) ⟨Nat.le_of_ble_eq_true rfl, Nat.le_of_ble_eq_true rfl⟩) (rc_preS hT hW hK hE hS [.int u1, .int (0 : Int32), .int (9 : Int32)]) rfl rfl hl.1 rfl (lv_room (Nat.le_of_ble_eq_true rfl)) dX9_joins_4 ⟨Nat.le_of_ble_eq_true rfl, Nat.le_of_ble_eq_true rfl⟩) (fun H locs hW hS => ?_)
  have hm := hm0
  clear hm0 hc_1
  refine lv_if_ne (tgt := 17) hx hb dX9_joins_7 (by decide) (fun c_12 => ?_) (fun c_12 => ?_)
  · replace hm := rc_f hm c_12
    refine lv_aload_n hx hb dX9_joins_17 rfl (lv_at hl 0 rfl) ?_
    refine rg_10_1 hx hb hts hown hK hW h0 tw_7_70 dX9_joins_18 ?_
    refine lv_iconst (v := 1) hx hb dX9_joins_21 (by decide) ?_
    refine rc_ialdj (j := 1) hx hb hK hW (rc_t_10_1 hT h0) (by decide) rfl (rc_inD (by decide)) (by decide) dX9_joins_22 ?_
    refine lv_topi (fun v3_2 ev => ?_)
    replace hm := rc_lt_at hm ev
    clear ev
    refine lv_istore_n (lv' := [(3, .int v3_2), (0, .ref a0), (1, .int u1), (2, .int u2)]) hx hb dX9_joins_23 rfl hl (by decide) rfl (fun ls hl => ?_)
    refine lv_iload_n hx hb dX9_joins_24 rfl (lv_at hl 0 rfl) ?_
    refine lv_iconst (v := 4) hx hb dX9_joins_25 (by decide) ?_
    refine lv_icmp_ne (tgt := 36) hx hb dX9_joins_26 (by decide) (fun c_10 => ?_) (fun c_10 => ?_)
    · replace hm := rc_f hm c_10
      refine lv_aload_n hx hb dX9_joins_36 rfl (lv_at hl 1 rfl) ?_
      refine rg_10_1 hx hb hts hown hK hW h0 tw_7_70 dX9_joins_37 ?_
      refine lv_bipush (v := 63) hx hb dX9_joins_40 (by decide) ?_
      refine lv_iconst (v := 2) hx hb dX9_joins_42 (by decide) ?_
      refine lv_iload_n hx hb dX9_joins_43 rfl (lv_at hl 0 rfl) ?_
      refine lv_imul hx hb dX9_joins_44 ?_
      refine lv_iadd hx hb dX9_joins_45 ?_
      refine lv_iload_n hx hb dX9_joins_46 rfl (lv_at hl 2 rfl) ?_
      have hi_3 := (rc_ix hm).1
      replace hm := (rc_ix hm).2
      refine rc_iastj (j := ((63 : Int32) + ((2 : Int32) * v3_2)).toNatClampNeg) hx hb hK hW hS (rc_t_10_1 hT h0) (by decide) (fun _ => rfl) hi_3 rfl dX9_joins_47 (fun σ_4 H locs eσ hW hS => ?_)
      replace hm := rc_lt_at hm eσ
      clear eσ
      refine lv_aload_n hx hb dX9_joins_48 rfl (lv_at hl 1 rfl) ?_
      refine rg_10_1 hx hb hts hown hK hW h0 tw_7_70 dX9_joins_49 ?_
      refine lv_bipush (v := 63) hx hb dX9_joins_52 (by decide) ?_
      refine lv_iconst (v := 2) hx hb dX9_joins_54 (by decide) ?_
      refine lv_iload_n hx hb dX9_joins_55 rfl (lv_at hl 0 rfl) ?_
      refine lv_imul hx hb dX9_joins_56 ?_
      refine lv_iadd hx hb dX9_joins_57 ?_
      refine lv_iconst (v := 1) hx hb dX9_joins_58 (by decide) ?_
      refine lv_iadd hx hb dX9_joins_59 ?_
      refine lv_iload_n hx hb dX9_joins_60 rfl (lv_at hl 3 rfl) ?_
      have hi_5 := (rc_ix hm).1
      replace hm := (rc_ix hm).2
      refine rc_iastj (j := (((63 : Int32) + ((2 : Int32) * v3_2)) + (1 : Int32)).toNatClampNeg) hx hb hK hW hS (rc_t_10_1 hT h0) (by decide) (fun _ => rfl) hi_5 rfl dX9_joins_61 (fun σ_6 H locs eσ hW hS => ?_)
      replace hm := rc_lt_at hm eσ
      clear eσ
      refine lv_aload_n hx hb dX9_joins_62 rfl (lv_at hl 1 rfl) ?_
      refine rg_10_1 hx hb hts hown hK hW h0 tw_7_70 dX9_joins_63 ?_
      refine lv_iconst (v := 1) hx hb dX9_joins_66 (by decide) ?_
      refine lv_iload_n hx hb dX9_joins_67 rfl (lv_at hl 0 rfl) ?_
      refine lv_iconst (v := 1) hx hb dX9_joins_68 (by decide) ?_
      refine lv_iadd hx hb dX9_joins_69 ?_
      refine rc_iastj (j := 1) hx hb hK hW hS (rc_t_10_1 hT h0) (by decide) (fun _ => rfl) (rc_inD (by decide)) (by decide) dX9_joins_70 (fun σ_7 H locs eσ hW hS => ?_)
      replace hm := rc_lt_at hm eσ
      clear eσ
      refine lv_aload_n hx hb dX9_joins_71 rfl (lv_at hl 1 rfl) ?_
      refine lv_iload_n hx hb dX9_joins_72 rfl (lv_at hl 0 rfl) ?_
      obtain ⟨w_8, σ_8, hc_8, hm0⟩ := rc_bd_inv hm
      clear hm
      refine rc_ci hS (va_runV (As := [.int v3_2]) (rest := []) ⟨hx, hb, hml, hown, hts⟩ (k_X9_done l hT a0 v3_2 h0 H.size _ _ _ hc_8) (cwV 1 hts (rc_gV tw_7_175 tw_7_177 tw_p_23 tw_1_14 tw_7_178) rfl rfl rfl (by decide +kernel) ⟨Nat.le_of_ble_eq_true rfl, Nat.le_of_ble_eq_true rfl⟩) (rc_preV hT hW hK hE hS h0 (by decide) rfl (q := (RX9, TX9, 22)) rfl [.int v3_2]) rfl rfl hl.1 rfl (lv_room (Nat.le_of_ble_eq_true rfl)) dX9_joins_73 ⟨Nat.le_of_ble_eq_true rfl, Nat.le_of_ble_eq_true rfl⟩) (fun H locs hW hS => ?_)
      have hm := hm0
      clear hm0 hc_8
      exact rc_eiret hx hb hr hlocks hW hS (Nat.le_of_ble_eq_true rfl) (Nat.le_of_ble_eq_true rfl) hm dX9_joins_76
    · replace hm := rc_t hm c_10
      refine lv_aload_n hx hb dX9_joins_29 rfl (lv_at hl 1 rfl) ?_
      refine lv_iconst (v := 2) hx hb dX9_joins_30 (by decide) ?_
      refine lv_iconst (v := 4) hx hb dX9_joins_31 (by decide) ?_
      obtain ⟨w_9, σ_9, hc_9, hm0⟩ := rc_bd_inv hm
      clear hm
      refine rc_ci hS (va_runV (As := [.int (2 : Int32), .int (4 : Int32)]) (rest := []) ⟨hx, hb, hml, hown, hts⟩ (k_X9_refused l hT a0 (2 : Int32) (4 : Int32) h0 H.size _ _ _ hc_9) (cwV 2 hts (rc_gV tw_7_155 tw_7_157 tw_p_18 tw_1_14 tw_7_158) rfl rfl rfl (by decide +kernel) ⟨Nat.le_of_ble_eq_true rfl, Nat.le_of_ble_eq_true rfl⟩) (rc_preV hT hW hK hE hS h0 (by decide) rfl (q := (RX9, TX9, 22)) rfl [.int (2 : Int32), .int (4 : Int32)]) rfl rfl hl.1 rfl (lv_room (Nat.le_of_ble_eq_true rfl)) dX9_joins_32 ⟨Nat.le_of_ble_eq_true rfl, Nat.le_of_ble_eq_true rfl⟩) (fun H locs hW hS => ?_)
      have hm := hm0
      clear hm0 hc_9
      exact rc_eiret hx hb hr hlocks hW hS (Nat.le_of_ble_eq_true rfl) (Nat.le_of_ble_eq_true rfl) hm dX9_joins_35
  · replace hm := rc_t hm c_12
    refine lv_aload_n hx hb dX9_joins_10 rfl (lv_at hl 0 rfl) ?_
    refine lv_iconst (v := 1) hx hb dX9_joins_11 (by decide) ?_
    refine lv_iconst (v := 0) hx hb dX9_joins_12 (by decide) ?_
    obtain ⟨w_11, σ_11, hc_11, hm0⟩ := rc_bd_inv hm
    clear hm
    refine rc_ci hS (va_runV (As := [.int (1 : Int32), .int (0 : Int32)]) (rest := []) ⟨hx, hb, hml, hown, hts⟩ (k_X9_refused l hT a0 (1 : Int32) (0 : Int32) h0 H.size _ _ _ hc_11) (cwV 2 hts (rc_gV tw_7_155 tw_7_157 tw_p_18 tw_1_14 tw_7_158) rfl rfl rfl (by decide +kernel) ⟨Nat.le_of_ble_eq_true rfl, Nat.le_of_ble_eq_true rfl⟩) (rc_preV hT hW hK hE hS h0 (by decide) rfl (q := (RX9, TX9, 22)) rfl [.int (1 : Int32), .int (0 : Int32)]) rfl rfl hl.1 rfl (lv_room (Nat.le_of_ble_eq_true rfl)) dX9_joins_13 ⟨Nat.le_of_ble_eq_true rfl, Nat.le_of_ble_eq_true rfl⟩) (fun H locs hW hS => ?_)
    have hm := hm0
    clear hm0 hc_11
    exact rc_eiret hx hb hr hlocks hW hS (Nat.le_of_ble_eq_true rfl) (Nat.le_of_ble_eq_true rfl) hm dX9_joins_16
