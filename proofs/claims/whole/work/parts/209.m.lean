def f_X9_sign (rf : rc_F) (a0 : Nat) (u1 : Int32) (σ : rc_S) : Option (Unit × rc_S) :=
  if (σ a0 21) = 0 then
    rc_bd (f_X9_here rf a0 σ) fun w_5 σ_5 =>
    if w_5 = u1 then
      rc_lt (rc_up σ_5 a0 21 (0 : Int32)) fun σ_6 =>
      if (σ_6 a0 21) = 0 then
        rc_lt (rc_up σ_6 a0 18 ((σ_6 a0 18) + (1 : Int32))) fun σ_7 =>
        some ((), σ_7)
      else
        rc_lt (rc_up σ_6 a0 18 ((σ_6 a0 18) + (0 : Int32))) fun σ_8 =>
        some ((), σ_8)
    else
      rc_lt (rc_up σ_5 a0 21 (1 : Int32)) fun σ_10 =>
      if (σ_10 a0 21) = 0 then
        rc_lt (rc_up σ_10 a0 18 ((σ_10 a0 18) + (1 : Int32))) fun σ_11 =>
        some ((), σ_11)
      else
        rc_lt (rc_up σ_10 a0 18 ((σ_10 a0 18) + (0 : Int32))) fun σ_12 =>
        some ((), σ_12)
  else
    rc_lt (rc_up σ a0 21 (1 : Int32)) fun σ_1 =>
    if (σ_1 a0 21) = 0 then
      rc_lt (rc_up σ_1 a0 18 ((σ_1 a0 18) + (1 : Int32))) fun σ_2 =>
      some ((), σ_2)
    else
      rc_lt (rc_up σ_1 a0 18 ((σ_1 a0 18) + (0 : Int32))) fun σ_3 =>
      some ((), σ_3)
def f_X9_figure_5 (rf : rc_F) (a0 : Nat) (v1 : Int32) (v2 : Int32) (K : Int32 → Int32 → rc_S → Option (Unit × rc_S)) : Nat → Int32 → Int32 → rc_S → Option (Unit × rc_S)
  | 0, _, _, _ => none
  | n + 1, v3, v4, σ =>
    if (σ a0 21) = 0 then
      if v2 ≤ v4 then
        K v3 v4 σ
      else
        rc_bd (f_X9_here rf a0 σ) fun w_1 σ_1 =>
        rc_bd (f_X9_in rf w_1 (48 : Int32) (57 : Int32) σ_1) fun w_2 σ_2 =>
        if w_2 = 0 then
          K v3 v4 σ_2
        else
          rc_bd (f_X9_here rf a0 σ_2) fun w_3 σ_3 =>
          rc_lt ((((10 : Int32) * v3) + w_3) - (48 : Int32)) fun v3_4 =>
          rc_lt (rc_up σ_3 a0 18 ((σ_3 a0 18) + (1 : Int32))) fun σ_5 =>
          rc_lt (v4 + 1) fun v4_6 =>
          f_X9_figure_5 rf a0 v1 v2 K n v3_4 v4_6 σ_5
    else
      K v3 v4 σ
def f_X9_figure (rf : rc_F) (a0 : Nat) (u1 : Int32) (u2 : Int32) (σ : rc_S) : Option (Unit × rc_S) :=
  f_X9_figure_5 rf a0 u1 u2 (fun v3_10 v4_11 σ_12 =>
    if (σ_12 a0 21) = 0 then
      if v4_11 = 0 then
        rc_lt (rc_up σ_12 a0 21 (1 : Int32)) fun σ_19 =>
        rc_ck (rc_in (((4 : Int32) * (σ_19 a0 20)) + u1) 240) <|
        rc_lt (rc_up σ_19 (rf a0 8) (((4 : Int32) * (σ_19 a0 20)) + u1).toNatClampNeg v3_10) fun σ_21 =>
        some ((), σ_21)
      else
        rc_lt (rc_up σ_12 a0 21 (0 : Int32)) fun σ_16 =>
        rc_ck (rc_in (((4 : Int32) * (σ_16 a0 20)) + u1) 240) <|
        rc_lt (rc_up σ_16 (rf a0 8) (((4 : Int32) * (σ_16 a0 20)) + u1).toNatClampNeg v3_10) fun σ_18 =>
        some ((), σ_18)
    else
      rc_lt (rc_up σ_12 a0 21 (1 : Int32)) fun σ_13 =>
      rc_ck (rc_in (((4 : Int32) * (σ_13 a0 20)) + u1) 240) <|
      rc_lt (rc_up σ_13 (rf a0 8) (((4 : Int32) * (σ_13 a0 20)) + u1).toNatClampNeg v3_10) fun σ_15 =>
      some ((), σ_15)
  ) rc_fu (0 : Int32) (0 : Int32) σ
def f_X9_readsOne (rf : rc_F) (a0 : Nat) (σ : rc_S) : Option (Unit × rc_S) :=
  rc_bd (f_X9_here rf a0 σ) fun w_1 σ_1 =>
  rc_ck (rc_in ((4 : Int32) * (σ_1 a0 20)) 240) <|
  rc_lt (rc_up σ_1 (rf a0 8) ((4 : Int32) * (σ_1 a0 20)).toNatClampNeg w_1) fun σ_3 =>
  if w_1 = (-1 : Int32) then
    rc_lt (rc_up σ_3 a0 18 ((σ_3 a0 18) + (0 : Int32))) fun σ_51 =>
    if w_1 = (98 : Int32) then
      rc_bd (f_X9_figure rf a0 (1 : Int32) (1 : Int32) σ_51) fun _ σ_53 =>
      rc_lt (rc_up σ_53 a0 20 ((σ_53 a0 20) + (1 : Int32))) fun σ_54 =>
      some ((), σ_54)
    else
    if w_1 = (99 : Int32) then
      rc_bd (f_X9_figure rf a0 (1 : Int32) (1 : Int32) σ_51) fun _ σ_56 =>
      rc_lt (rc_up σ_56 a0 20 ((σ_56 a0 20) + (1 : Int32))) fun σ_57 =>
      some ((), σ_57)
    else
    if w_1 = (103 : Int32) then
      rc_bd (f_X9_figure rf a0 (1 : Int32) (1 : Int32) σ_51) fun _ σ_59 =>
      rc_lt (rc_up σ_59 a0 20 ((σ_59 a0 20) + (1 : Int32))) fun σ_60 =>
      some ((), σ_60)
    else
    if w_1 = (104 : Int32) then
      rc_bd (f_X9_figure rf a0 (1 : Int32) (1 : Int32) σ_51) fun _ σ_62 =>
      rc_bd (f_X9_sign rf a0 (61 : Int32) σ_62) fun _ σ_63 =>
      rc_bd (f_X9_figure rf a0 (2 : Int32) (2 : Int32) σ_63) fun _ σ_64 =>
      rc_lt (rc_up σ_64 a0 20 ((σ_64 a0 20) + (1 : Int32))) fun σ_65 =>
      some ((), σ_65)
    else
    if w_1 = (108 : Int32) then
      rc_bd (f_X9_figure rf a0 (1 : Int32) (1 : Int32) σ_51) fun _ σ_67 =>
      rc_lt (rc_up σ_67 a0 20 ((σ_67 a0 20) + (1 : Int32))) fun σ_68 =>
      some ((), σ_68)
    else
    if w_1 = (109 : Int32) then
      rc_bd (f_X9_figure rf a0 (1 : Int32) (1 : Int32) σ_51) fun _ σ_70 =>
      rc_lt (rc_up σ_70 a0 20 ((σ_70 a0 20) + (1 : Int32))) fun σ_71 =>
      some ((), σ_71)
    else
    if w_1 = (112 : Int32) then
      rc_bd (f_X9_figure rf a0 (1 : Int32) (1 : Int32) σ_51) fun _ σ_73 =>
      rc_bd (f_X9_sign rf a0 (62 : Int32) σ_73) fun _ σ_74 =>
      rc_bd (f_X9_figure rf a0 (2 : Int32) (1 : Int32) σ_74) fun _ σ_75 =>
      rc_bd (f_X9_sign rf a0 (61 : Int32) σ_75) fun _ σ_76 =>
      rc_bd (f_X9_figure rf a0 (3 : Int32) (2 : Int32) σ_76) fun _ σ_77 =>
      rc_lt (rc_up σ_77 a0 20 ((σ_77 a0 20) + (1 : Int32))) fun σ_78 =>
      some ((), σ_78)
    else
    if w_1 = (115 : Int32) then
      rc_bd (f_X9_figure rf a0 (1 : Int32) (1 : Int32) σ_51) fun _ σ_80 =>
      rc_bd (f_X9_sign rf a0 (42 : Int32) σ_80) fun _ σ_81 =>
      rc_bd (f_X9_figure rf a0 (2 : Int32) (1 : Int32) σ_81) fun _ σ_82 =>
      rc_lt (rc_up σ_82 a0 20 ((σ_82 a0 20) + (1 : Int32))) fun σ_83 =>
      some ((), σ_83)
    else
    if w_1 = (116 : Int32) then
      rc_bd (f_X9_figure rf a0 (1 : Int32) (1 : Int32) σ_51) fun _ σ_85 =>
      rc_lt (rc_up σ_85 a0 20 ((σ_85 a0 20) + (1 : Int32))) fun σ_86 =>
      some ((), σ_86)
    else
    if w_1 = (120 : Int32) then
      rc_bd (f_X9_figure rf a0 (1 : Int32) (1 : Int32) σ_51) fun _ σ_88 =>
      rc_lt (rc_up σ_88 a0 20 ((σ_88 a0 20) + (1 : Int32))) fun σ_89 =>
      some ((), σ_89)
    else
    if w_1 = (121 : Int32) then
      rc_lt (rc_up σ_51 a0 20 ((σ_51 a0 20) + (1 : Int32))) fun σ_91 =>
      some ((), σ_91)
    else
    rc_lt (rc_up σ_51 a0 21 (1 : Int32)) fun σ_92 =>
    if w_1 = (-1 : Int32) then
      rc_lt (rc_up σ_92 a0 18 ((σ_92 a0 18) - (0 : Int32))) fun σ_95 =>
      rc_lt (rc_up σ_95 a0 20 ((σ_95 a0 20) + (1 : Int32))) fun σ_96 =>
      some ((), σ_96)
    else
      rc_lt (rc_up σ_92 a0 18 ((σ_92 a0 18) - (1 : Int32))) fun σ_93 =>
      rc_lt (rc_up σ_93 a0 20 ((σ_93 a0 20) + (1 : Int32))) fun σ_94 =>
      some ((), σ_94)
  else
    rc_lt (rc_up σ_3 a0 18 ((σ_3 a0 18) + (1 : Int32))) fun σ_4 =>
    if w_1 = (98 : Int32) then
      rc_bd (f_X9_figure rf a0 (1 : Int32) (1 : Int32) σ_4) fun _ σ_6 =>
      rc_lt (rc_up σ_6 a0 20 ((σ_6 a0 20) + (1 : Int32))) fun σ_7 =>
      some ((), σ_7)
    else
    if w_1 = (99 : Int32) then
      rc_bd (f_X9_figure rf a0 (1 : Int32) (1 : Int32) σ_4) fun _ σ_9 =>
      rc_lt (rc_up σ_9 a0 20 ((σ_9 a0 20) + (1 : Int32))) fun σ_10 =>
      some ((), σ_10)
    else
    if w_1 = (103 : Int32) then
      rc_bd (f_X9_figure rf a0 (1 : Int32) (1 : Int32) σ_4) fun _ σ_12 =>
      rc_lt (rc_up σ_12 a0 20 ((σ_12 a0 20) + (1 : Int32))) fun σ_13 =>
      some ((), σ_13)
    else
    if w_1 = (104 : Int32) then
      rc_bd (f_X9_figure rf a0 (1 : Int32) (1 : Int32) σ_4) fun _ σ_15 =>
      rc_bd (f_X9_sign rf a0 (61 : Int32) σ_15) fun _ σ_16 =>
      rc_bd (f_X9_figure rf a0 (2 : Int32) (2 : Int32) σ_16) fun _ σ_17 =>
      rc_lt (rc_up σ_17 a0 20 ((σ_17 a0 20) + (1 : Int32))) fun σ_18 =>
      some ((), σ_18)
    else
    if w_1 = (108 : Int32) then
      rc_bd (f_X9_figure rf a0 (1 : Int32) (1 : Int32) σ_4) fun _ σ_20 =>
      rc_lt (rc_up σ_20 a0 20 ((σ_20 a0 20) + (1 : Int32))) fun σ_21 =>
      some ((), σ_21)
    else
    if w_1 = (109 : Int32) then
      rc_bd (f_X9_figure rf a0 (1 : Int32) (1 : Int32) σ_4) fun _ σ_23 =>
      rc_lt (rc_up σ_23 a0 20 ((σ_23 a0 20) + (1 : Int32))) fun σ_24 =>
      some ((), σ_24)
    else
    if w_1 = (112 : Int32) then
      rc_bd (f_X9_figure rf a0 (1 : Int32) (1 : Int32) σ_4) fun _ σ_26 =>
      rc_bd (f_X9_sign rf a0 (62 : Int32) σ_26) fun _ σ_27 =>
      rc_bd (f_X9_figure rf a0 (2 : Int32) (1 : Int32) σ_27) fun _ σ_28 =>
      rc_bd (f_X9_sign rf a0 (61 : Int32) σ_28) fun _ σ_29 =>
      rc_bd (f_X9_figure rf a0 (3 : Int32) (2 : Int32) σ_29) fun _ σ_30 =>
      rc_lt (rc_up σ_30 a0 20 ((σ_30 a0 20) + (1 : Int32))) fun σ_31 =>
      some ((), σ_31)
    else
    if w_1 = (115 : Int32) then
      rc_bd (f_X9_figure rf a0 (1 : Int32) (1 : Int32) σ_4) fun _ σ_33 =>
      rc_bd (f_X9_sign rf a0 (42 : Int32) σ_33) fun _ σ_34 =>
      rc_bd (f_X9_figure rf a0 (2 : Int32) (1 : Int32) σ_34) fun _ σ_35 =>
      rc_lt (rc_up σ_35 a0 20 ((σ_35 a0 20) + (1 : Int32))) fun σ_36 =>
      some ((), σ_36)
    else
    if w_1 = (116 : Int32) then
      rc_bd (f_X9_figure rf a0 (1 : Int32) (1 : Int32) σ_4) fun _ σ_38 =>
      rc_lt (rc_up σ_38 a0 20 ((σ_38 a0 20) + (1 : Int32))) fun σ_39 =>
      some ((), σ_39)
    else
    if w_1 = (120 : Int32) then
      rc_bd (f_X9_figure rf a0 (1 : Int32) (1 : Int32) σ_4) fun _ σ_41 =>
      rc_lt (rc_up σ_41 a0 20 ((σ_41 a0 20) + (1 : Int32))) fun σ_42 =>
      some ((), σ_42)
    else
    if w_1 = (121 : Int32) then
      rc_lt (rc_up σ_4 a0 20 ((σ_4 a0 20) + (1 : Int32))) fun σ_44 =>
      some ((), σ_44)
    else
    rc_lt (rc_up σ_4 a0 21 (1 : Int32)) fun σ_45 =>
    if w_1 = (-1 : Int32) then
      rc_lt (rc_up σ_45 a0 18 ((σ_45 a0 18) - (0 : Int32))) fun σ_48 =>
      rc_lt (rc_up σ_48 a0 20 ((σ_48 a0 20) + (1 : Int32))) fun σ_49 =>
      some ((), σ_49)
    else
      rc_lt (rc_up σ_45 a0 18 ((σ_45 a0 18) - (1 : Int32))) fun σ_46 =>
      rc_lt (rc_up σ_46 a0 20 ((σ_46 a0 20) + (1 : Int32))) fun σ_47 =>
      some ((), σ_47)
def f_X9_does (rf : rc_F) (a0 : Nat) (u1 : Int32) (σ : rc_S) : Option (Int32 × rc_S) :=
  rc_ck (rc_in (((4 : Int32) * u1) + (1 : Int32)) 240) <|
  rc_lt (σ (rf a0 8) (((4 : Int32) * u1) + (1 : Int32)).toNatClampNeg) fun v2_2 =>
  rc_ck (rc_in (((4 : Int32) * u1) + (2 : Int32)) 240) <|
  rc_lt (σ (rf a0 8) (((4 : Int32) * u1) + (2 : Int32)).toNatClampNeg) fun v3_4 =>
  rc_ck (rc_in ((4 : Int32) * u1) 240) <|
  if (σ (rf a0 8) ((4 : Int32) * u1).toNatClampNeg) = (98 : Int32) then
    rc_bd (f_X9_places rf a0 v2_2 σ) fun w_7 σ_7 =>
    some (w_7, σ_7)
  else
  if (σ (rf a0 8) ((4 : Int32) * u1).toNatClampNeg) = (99 : Int32) then
    rc_bd (f_X9_clears rf a0 v2_2 σ) fun w_9 σ_9 =>
    some (w_9, σ_9)
  else
  if (σ (rf a0 8) ((4 : Int32) * u1).toNatClampNeg) = (103 : Int32) then
    rc_bd (f_X9_drinks rf a0 v2_2 σ) fun w_11 σ_11 =>
    some (w_11, σ_11)
  else
  if (σ (rf a0 8) ((4 : Int32) * u1).toNatClampNeg) = (104 : Int32) then
    rc_bd (f_X9_adulterates rf a0 v2_2 v3_4 σ) fun w_13 σ_13 =>
    some (w_13, σ_13)
  else
  if (σ (rf a0 8) ((4 : Int32) * u1).toNatClampNeg) = (108 : Int32) then
    rc_bd (f_X9_leaves rf a0 v2_2 σ) fun w_15 σ_15 =>
    some (w_15, σ_15)
  else
  if (σ (rf a0 8) ((4 : Int32) * u1).toNatClampNeg) = (109 : Int32) then
    rc_bd (f_X9_joins rf a0 v2_2 (0 : Int32) σ) fun w_17 σ_17 =>
    some (w_17, σ_17)
  else
  if (σ (rf a0 8) ((4 : Int32) * u1).toNatClampNeg) = (112 : Int32) then
    rc_ck (rc_in (((4 : Int32) * u1) + (3 : Int32)) 240) <|
    rc_bd (f_X9_pours rf a0 v2_2 v3_4 (σ (rf a0 8) (((4 : Int32) * u1) + (3 : Int32)).toNatClampNeg) σ) fun w_20 σ_20 =>
    some (w_20, σ_20)
  else
  if (σ (rf a0 8) ((4 : Int32) * u1).toNatClampNeg) = (115 : Int32) then
    rc_bd (f_X9_storms rf a0 v2_2 v3_4 σ) fun w_22 σ_22 =>
    some (w_22, σ_22)
  else
  if (σ (rf a0 8) ((4 : Int32) * u1).toNatClampNeg) = (116 : Int32) then
    rc_bd (f_X9_joins rf a0 v2_2 (1 : Int32) σ) fun w_24 σ_24 =>
    some (w_24, σ_24)
  else
  if (σ (rf a0 8) ((4 : Int32) * u1).toNatClampNeg) = (120 : Int32) then
    rc_bd (f_X9_takes rf a0 v2_2 σ) fun w_26 σ_26 =>
    some (w_26, σ_26)
  else
  rc_bd (f_X9_passes rf a0 σ) fun w_27 σ_27 =>
  some (w_27, σ_27)
set_option maxHeartbeats 4000000 in
set_option maxRecDepth 100000 in
theorem k_X9_sign (l : Launch) {Y : rc_Y} {sh : Nat → Nat} {rf : rc_F} (hT : rc_T Y sh rf) (a0 : Nat) (u1 : Int32) (h0 : sh a0 = 10) (sz : Nat) (σ σ' : rc_S) (r : Unit) (hm : f_X9_sign rf a0 u1 σ = some (r, σ')) : Met l yX9_sign (Cond.code yX9_sign cX9_sign 2 none :: rc_big) ({ frames := 1, cells := 0, slots := 0, locals := 20 } : Room) (rc_P Y sh rf σ sz [.ref a0, .int u1]) (va_Qv (fun (_ : Unit) => True) (fun _ t => rc_W Y sh rf σ' t.heap) (rc_A sh sz)) 0 0 (rc_A sh sz) := by
  refine Met.ofW (cc := cX9_sign) (maxL := 2) (ret := none) (by decide +kernel) rfl ?_
  intro p e s m args below meth c s₁ B hml hv
  obtain ⟨rfl, hsz, hW, hK, hE⟩ := hv
  have hx := B.exec
  have hb := B.bytes
  have hr := B.returns
  have hts : ∀ w ∈ rc_big, w.before _ s = true := fun w h => atoms_spec (ws := Cond.code yX9_sign cX9_sign 2 none :: rc_big) B.pre w (List.mem_cons_of_mem _ h)
  have hown : s.vm.findClass RX9 = some m.cls := findClass_of_methodNamed B.named
  have hlocks := B.notSynchronized
  clear B
  subst hsz
  have hS : va_S (rc_A sh s.heap.size) s.heap s.heap [] := va_S.rf
  have hl := lv_entry ([.ref a0, .int u1]) (n := 2) (Nat.le_of_ble_eq_true rfl)
  rw [lg_entry_eq]
  generalize (lg_sl ([.ref a0, .int u1]) ++ List.replicate (2 - (lg_sl ([.ref a0, .int u1])).length) Slot.unset).toArray = ls at hl ⊢
  have hl : lv_has ls 2 [(0, .ref a0), (1, .int u1)] := hl
  unfold f_X9_sign at hm
  refine lv_aload_n hx hb dX9_sign_0 rfl (lv_at hl 0 rfl) ?_
  refine lv_aload_n hx hb dX9_sign_1 rfl (lv_at hl 0 rfl) ?_
  refine rg_10_21 hx hb hts hown hK hW h0 tw_7_90 dX9_sign_2 ?_
  refine lv_if_ne (tgt := 16) hx hb dX9_sign_5 (by decide) (fun c_15 => ?_) (fun c_15 => ?_)
  · replace hm := rc_f hm c_15
    refine lv_iconst (v := 1) hx hb dX9_sign_16 (by decide) ?_
    refine lv_goto (tgt := 21) hx hb dX9_sign_17 (by decide) ?_
    refine rp_10_21 hx hb hts hown hK hW hS h0 tw_7_90 rfl rfl dX9_sign_21 (fun σ_1 H locs eσ hW hS => ?_)
    replace hm := rc_lt_at hm eσ
    clear eσ
    refine lv_aload_n hx hb dX9_sign_24 rfl (lv_at hl 0 rfl) ?_
    refine lv_dup hx hb dX9_sign_25 rfl ?_
    refine rg_10_18 hx hb hts hown hK hW h0 tw_7_87 dX9_sign_26 ?_
    refine lv_aload_n hx hb dX9_sign_29 rfl (lv_at hl 0 rfl) ?_
    refine rg_10_21 hx hb hts hown hK hW h0 tw_7_90 dX9_sign_30 ?_
    refine lv_if_eq (tgt := 40) hx hb dX9_sign_33 (by decide) (fun c_4 => ?_) (fun c_4 => ?_)
    · replace hm := rc_t hm c_4
      refine lv_iconst (v := 1) hx hb dX9_sign_40 (by decide) ?_
      refine lv_iadd hx hb dX9_sign_41 ?_
      refine rp_10_18 hx hb hts hown hK hW hS h0 tw_7_87 dX9_sign_42 (fun σ_2 H locs eσ hW hS => ?_)
      replace hm := rc_lt_at hm eσ
      clear eσ
      exact rc_evret hx hb hr hlocks hW hS (Nat.le_of_ble_eq_true rfl) (Nat.le_of_ble_eq_true rfl) hm dX9_sign_45
    · replace hm := rc_f hm c_4
      refine lv_iconst (v := 0) hx hb dX9_sign_36 (by decide) ?_
      refine lv_goto (tgt := 41) hx hb dX9_sign_37 (by decide) ?_
      refine lv_iadd hx hb dX9_sign_41 ?_
      refine rp_10_18 hx hb hts hown hK hW hS h0 tw_7_87 dX9_sign_42 (fun σ_3 H locs eσ hW hS => ?_)
      replace hm := rc_lt_at hm eσ
      clear eσ
      exact rc_evret hx hb hr hlocks hW hS (Nat.le_of_ble_eq_true rfl) (Nat.le_of_ble_eq_true rfl) hm dX9_sign_45
  · replace hm := rc_t hm c_15
    refine lv_aload_n hx hb dX9_sign_8 rfl (lv_at hl 0 rfl) ?_
    obtain ⟨w_5, σ_5, hc_5, hm0⟩ := rc_bd_inv hm
    clear hm
    refine rc_ci hS (va_runV (As := []) (rest := [.ref a0]) ⟨hx, hb, hml, hown, hts⟩ (k_X9_here l hT a0 h0 s.heap.size _ _ _ hc_5) (cwV 0 hts (rc_gV tw_8_161 tw_8_163 tw_p_51 tw_1_14 tw_8_164) rfl rfl rfl (by decide +kernel) ⟨Nat.le_of_ble_eq_true rfl, Nat.le_of_ble_eq_true rfl⟩) (rc_preV hT hW hK hE hS h0 (by decide) rfl (q := (RX9, TX9, 22)) rfl []) rfl rfl hl.1 rfl (lv_room (Nat.le_of_ble_eq_true rfl)) dX9_sign_9 ⟨Nat.le_of_ble_eq_true rfl, Nat.le_of_ble_eq_true rfl⟩) (fun H locs hW hS => ?_)
    have hm := hm0
    clear hm0 hc_5
    refine lv_iload_n hx hb dX9_sign_12 rfl (lv_at hl 1 rfl) ?_
    refine lv_icmp_eq (tgt := 20) hx hb dX9_sign_13 (by decide) (fun c_14 => ?_) (fun c_14 => ?_)
    · replace hm := rc_t hm c_14
      refine lv_iconst (v := 0) hx hb dX9_sign_20 (by decide) ?_
      refine rp_10_21 hx hb hts hown hK hW hS h0 tw_7_90 rfl rfl dX9_sign_21 (fun σ_6 H locs eσ hW hS => ?_)
      replace hm := rc_lt_at hm eσ
      clear eσ
      refine lv_aload_n hx hb dX9_sign_24 rfl (lv_at hl 0 rfl) ?_
      refine lv_dup hx hb dX9_sign_25 rfl ?_
      refine rg_10_18 hx hb hts hown hK hW h0 tw_7_87 dX9_sign_26 ?_
      refine lv_aload_n hx hb dX9_sign_29 rfl (lv_at hl 0 rfl) ?_
      refine rg_10_21 hx hb hts hown hK hW h0 tw_7_90 dX9_sign_30 ?_
      refine lv_if_eq (tgt := 40) hx hb dX9_sign_33 (by decide) (fun c_9 => ?_) (fun c_9 => ?_)
      · replace hm := rc_t hm c_9
        refine lv_iconst (v := 1) hx hb dX9_sign_40 (by decide) ?_
        refine lv_iadd hx hb dX9_sign_41 ?_
        refine rp_10_18 hx hb hts hown hK hW hS h0 tw_7_87 dX9_sign_42 (fun σ_7 H locs eσ hW hS => ?_)
        replace hm := rc_lt_at hm eσ
        clear eσ
        exact rc_evret hx hb hr hlocks hW hS (Nat.le_of_ble_eq_true rfl) (Nat.le_of_ble_eq_true rfl) hm dX9_sign_45
      · replace hm := rc_f hm c_9
        refine lv_iconst (v := 0) hx hb dX9_sign_36 (by decide) ?_
        refine lv_goto (tgt := 41) hx hb dX9_sign_37 (by decide) ?_
        refine lv_iadd hx hb dX9_sign_41 ?_
        refine rp_10_18 hx hb hts hown hK hW hS h0 tw_7_87 dX9_sign_42 (fun σ_8 H locs eσ hW hS => ?_)
        replace hm := rc_lt_at hm eσ
        clear eσ
        exact rc_evret hx hb hr hlocks hW hS (Nat.le_of_ble_eq_true rfl) (Nat.le_of_ble_eq_true rfl) hm dX9_sign_45
    · replace hm := rc_f hm c_14
      refine lv_iconst (v := 1) hx hb dX9_sign_16 (by decide) ?_
      refine lv_goto (tgt := 21) hx hb dX9_sign_17 (by decide) ?_
      refine rp_10_21 hx hb hts hown hK hW hS h0 tw_7_90 rfl rfl dX9_sign_21 (fun σ_10 H locs eσ hW hS => ?_)
      replace hm := rc_lt_at hm eσ
      clear eσ
      refine lv_aload_n hx hb dX9_sign_24 rfl (lv_at hl 0 rfl) ?_
      refine lv_dup hx hb dX9_sign_25 rfl ?_
      refine rg_10_18 hx hb hts hown hK hW h0 tw_7_87 dX9_sign_26 ?_
      refine lv_aload_n hx hb dX9_sign_29 rfl (lv_at hl 0 rfl) ?_
      refine rg_10_21 hx hb hts hown hK hW h0 tw_7_90 dX9_sign_30 ?_
      refine lv_if_eq (tgt := 40) hx hb dX9_sign_33 (by decide) (fun c_13 => ?_) (fun c_13 => ?_)
      · replace hm := rc_t hm c_13
        refine lv_iconst (v := 1) hx hb dX9_sign_40 (by decide) ?_
        refine lv_iadd hx hb dX9_sign_41 ?_
        refine rp_10_18 hx hb hts hown hK hW hS h0 tw_7_87 dX9_sign_42 (fun σ_11 H locs eσ hW hS => ?_)
        replace hm := rc_lt_at hm eσ
        clear eσ
        exact rc_evret hx hb hr hlocks hW hS (Nat.le_of_ble_eq_true rfl) (Nat.le_of_ble_eq_true rfl) hm dX9_sign_45
      · replace hm := rc_f hm c_13
        refine lv_iconst (v := 0) hx hb dX9_sign_36 (by decide) ?_
        refine lv_goto (tgt := 41) hx hb dX9_sign_37 (by decide) ?_
        refine lv_iadd hx hb dX9_sign_41 ?_
        refine rp_10_18 hx hb hts hown hK hW hS h0 tw_7_87 dX9_sign_42 (fun σ_12 H locs eσ hW hS => ?_)
        replace hm := rc_lt_at hm eσ
        clear eσ
        exact rc_evret hx hb hr hlocks hW hS (Nat.le_of_ble_eq_true rfl) (Nat.le_of_ble_eq_true rfl) hm dX9_sign_45
set_option maxHeartbeats 4000000 in
set_option maxRecDepth 100000 in
theorem k_X9_figure (l : Launch) {Y : rc_Y} {sh : Nat → Nat} {rf : rc_F} (hT : rc_T Y sh rf) (a0 : Nat) (u1 : Int32) (u2 : Int32) (h0 : sh a0 = 10) (sz : Nat) (σ σ' : rc_S) (r : Unit) (hm : f_X9_figure rf a0 u1 u2 σ = some (r, σ')) : Met l yX9_figure (Cond.code yX9_figure cX9_figure 5 none :: rc_big) ({ frames := 1, cells := 0, slots := 0, locals := 22 } : Room) (rc_P Y sh rf σ sz [.ref a0, .int u1, .int u2]) (va_Qv (fun (_ : Unit) => True) (fun _ t => rc_W Y sh rf σ' t.heap) (rc_A sh sz)) 0 0 (rc_A sh sz) := by
  refine Met.ofW (cc := cX9_figure) (maxL := 5) (ret := none) (by decide +kernel) rfl ?_
  intro p e s m args below meth c s₁ B hml hv
  obtain ⟨rfl, hsz, hW, hK, hE⟩ := hv
  have hx := B.exec
  have hb := B.bytes
  have hr := B.returns
  have hts : ∀ w ∈ rc_big, w.before _ s = true := fun w h => atoms_spec (ws := Cond.code yX9_figure cX9_figure 5 none :: rc_big) B.pre w (List.mem_cons_of_mem _ h)
  have hown : s.vm.findClass RX9 = some m.cls := findClass_of_methodNamed B.named
  have hlocks := B.notSynchronized
  clear B
  subst hsz
  have hS : va_S (rc_A sh s.heap.size) s.heap s.heap [] := va_S.rf
  have hl := lv_entry ([.ref a0, .int u1, .int u2]) (n := 5) (Nat.le_of_ble_eq_true rfl)
  rw [lg_entry_eq]
  generalize (lg_sl ([.ref a0, .int u1, .int u2]) ++ List.replicate (5 - (lg_sl ([.ref a0, .int u1, .int u2])).length) Slot.unset).toArray = ls at hl ⊢
  have hl : lv_has ls 5 [(0, .ref a0), (1, .int u1), (2, .int u2)] := hl
  have lp_5 : ∀ (v1 : Int32) (v2 : Int32) (K : Int32 → Int32 → rc_S → Option (Unit × rc_S)) (hKK : ∀ (v3 v4 : Int32) (σ : rc_S) (H : Heap) (locs : List Loc) (ls : Array Slot), K v3 v4 σ = some (r, σ') → rc_W Y sh rf σ H → va_S (rc_A sh s.heap.size) s.heap H locs → lv_has ls 5 [(0, .ref a0), (1, .int v1), (3, .int v3), (4, .int v4)] → W p l e (headSpec (Cond.code yX9_figure cX9_figure 5 none :: rc_big) ({ frames := 1, cells := 0, slots := 0, locals := 22 } : Room)).room s m (([.ref a0, .int u1, .int u2] : List Value).toArray) below meth c H locs 0 0 (MQ below (va_Qv (fun (_ : Unit) => True) (fun _ t => rc_W Y sh rf σ' t.heap) (rc_A sh s.heap.size)) ([.ref a0, .int u1, .int u2] : List Value).toArray s 0 0 (rc_A sh s.heap.size)) (F0 m 61 ls [])) (n : Nat) (v3 v4 : Int32) (σ : rc_S) (H : Heap) (locs : List Loc) (ls : Array Slot), f_X9_figure_5 rf a0 v1 v2 K n v3 v4 σ = some (r, σ') → rc_W Y sh rf σ H → va_S (rc_A sh s.heap.size) s.heap H locs → lv_has ls 5 [(0, .ref a0), (1, .int v1), (2, .int v2), (3, .int v3), (4, .int v4)] → W p l e (headSpec (Cond.code yX9_figure cX9_figure 5 none :: rc_big) ({ frames := 1, cells := 0, slots := 0, locals := 22 } : Room)).room s m (([.ref a0, .int u1, .int u2] : List Value).toArray) below meth c H locs 0 0 (MQ below (va_Qv (fun (_ : Unit) => True) (fun _ t => rc_W Y sh rf σ' t.heap) (rc_A sh s.heap.size)) ([.ref a0, .int u1, .int u2] : List Value).toArray s 0 0 (rc_A sh s.heap.size)) (F0 m 5 ls []) := by
    intro v1 v2 K hKK n
    induction n with
    | zero =>
      intro v3 v4 σ H locs ls hm
      rw [f_X9_figure_5] at hm
      cases hm
    | succ n ih =>
      intro v3 v4 σ H locs ls hm hW hS hl
      rw [f_X9_figure_5] at hm
      refine lv_aload_n hx hb dX9_figure_5 rfl (lv_at hl 0 rfl) ?_
      refine rg_10_21 hx hb hts hown hK hW h0 tw_7_90 dX9_figure_6 ?_
      refine lv_if_ne (tgt := 61) hx hb dX9_figure_9 (by decide) (fun c_9 => ?_) (fun c_9 => ?_)
      · replace hm := rc_f hm c_9
        exact hKK v3 v4 σ _ _ _ hm hW hS (lv_sub hl [0, 1, 3, 4] rfl)
      · replace hm := rc_t hm c_9
        refine lv_iload hx hb dX9_figure_12 (lv_at hl 4 rfl) ?_
        refine lv_iload_n hx hb dX9_figure_14 rfl (lv_at hl 2 rfl) ?_
        refine lv_icmp_ge (tgt := 61) hx hb dX9_figure_15 (by decide) (fun c_8 => ?_) (fun c_8 => ?_)
        · replace hm := rc_t hm c_8
          exact hKK v3 v4 σ _ _ _ hm hW hS (lv_sub hl [0, 1, 3, 4] rfl)
        · replace hm := rc_f hm c_8
          refine lv_aload_n hx hb dX9_figure_18 rfl (lv_at hl 0 rfl) ?_
          obtain ⟨w_1, σ_1, hc_1, hm0⟩ := rc_bd_inv hm
          clear hm
          refine rc_ci hS (va_runV (As := []) (rest := []) ⟨hx, hb, hml, hown, hts⟩ (k_X9_here l hT a0 h0 H.size _ _ _ hc_1) (cwV 0 hts (rc_gV tw_8_161 tw_8_163 tw_p_51 tw_1_14 tw_8_164) rfl rfl rfl (by decide +kernel) ⟨Nat.le_of_ble_eq_true rfl, Nat.le_of_ble_eq_true rfl⟩) (rc_preV hT hW hK hE hS h0 (by decide) rfl (q := (RX9, TX9, 22)) rfl []) rfl rfl hl.1 rfl (lv_room (Nat.le_of_ble_eq_true rfl)) dX9_figure_19 ⟨Nat.le_of_ble_eq_true rfl, Nat.le_of_ble_eq_true rfl⟩) (fun H locs hW hS => ?_)
          have hm := hm0
          clear hm0 hc_1
          refine lv_bipush (v := 48) hx hb dX9_figure_22 (by decide) ?_
          refine lv_bipush (v := 57) hx hb dX9_figure_24 (by decide) ?_
          obtain ⟨w_2, σ_2, hc_2, hm0⟩ := rc_bd_inv hm
          clear hm
          refine rc_ci hS (va_runS (As := [.int w_1, .int (48 : Int32), .int (57 : Int32)]) (rest := []) ⟨hx, hb, hml, hown, hts⟩ (k_X9_in l hT w_1 (48 : Int32) (57 : Int32)  H.size _ _ _ hc_2) (va_cwS 3 hts (rc_gS tw_7_152 tw_7_153 tw_1_14 tw_7_154) rfl rfl rfl (by decide +kernel) ⟨Nat.le_of_ble_eq_true rfl, Nat.le_of_ble_eq_true rfl⟩) (rc_preS hT hW hK hE hS [.int w_1, .int (48 : Int32), .int (57 : Int32)]) rfl rfl hl.1 rfl (lv_room (Nat.le_of_ble_eq_true rfl)) dX9_figure_26 ⟨Nat.le_of_ble_eq_true rfl, Nat.le_of_ble_eq_true rfl⟩) (fun H locs hW hS => ?_)
          have hm := hm0
          clear hm0 hc_2
          refine lv_if_eq (tgt := 61) hx hb dX9_figure_29 (by decide) (fun c_7 => ?_) (fun c_7 => ?_)
          · replace hm := rc_t hm c_7
            exact hKK v3 v4 σ_2 _ _ _ hm hW hS (lv_sub hl [0, 1, 3, 4] rfl)
          · replace hm := rc_f hm c_7
            refine lv_bipush (v := 10) hx hb dX9_figure_32 (by decide) ?_
            refine lv_iload_n hx hb dX9_figure_34 rfl (lv_at hl 3 rfl) ?_
            refine lv_imul hx hb dX9_figure_35 ?_
            refine lv_aload_n hx hb dX9_figure_36 rfl (lv_at hl 0 rfl) ?_
            obtain ⟨w_3, σ_3, hc_3, hm0⟩ := rc_bd_inv hm
            clear hm
            refine rc_ci hS (va_runV (As := []) (rest := [.int ((10 : Int32) * v3)]) ⟨hx, hb, hml, hown, hts⟩ (k_X9_here l hT a0 h0 H.size _ _ _ hc_3) (cwV 0 hts (rc_gV tw_8_161 tw_8_163 tw_p_51 tw_1_14 tw_8_164) rfl rfl rfl (by decide +kernel) ⟨Nat.le_of_ble_eq_true rfl, Nat.le_of_ble_eq_true rfl⟩) (rc_preV hT hW hK hE hS h0 (by decide) rfl (q := (RX9, TX9, 22)) rfl []) rfl rfl hl.1 rfl (lv_room (Nat.le_of_ble_eq_true rfl)) dX9_figure_37 ⟨Nat.le_of_ble_eq_true rfl, Nat.le_of_ble_eq_true rfl⟩) (fun H locs hW hS => ?_)
            have hm := hm0
            clear hm0 hc_3
            refine lv_iadd hx hb dX9_figure_40 ?_
            refine lv_bipush (v := 48) hx hb dX9_figure_41 (by decide) ?_
            refine lv_isub hx hb dX9_figure_43 ?_
            refine lv_topi (fun v3_4 ev => ?_)
            replace hm := rc_lt_at hm ev
            clear ev
            refine lv_istore_n (lv' := [(3, .int v3_4), (0, .ref a0), (1, .int v1), (2, .int v2), (4, .int v4)]) hx hb dX9_figure_44 rfl hl (by decide) rfl (fun ls hl => ?_)
            refine lv_aload_n hx hb dX9_figure_45 rfl (lv_at hl 1 rfl) ?_
            refine lv_dup hx hb dX9_figure_46 rfl ?_
            refine rg_10_18 hx hb hts hown hK hW h0 tw_7_87 dX9_figure_47 ?_
            refine lv_iconst (v := 1) hx hb dX9_figure_50 (by decide) ?_
            refine lv_iadd hx hb dX9_figure_51 ?_
            refine rp_10_18 hx hb hts hown hK hW hS h0 tw_7_87 dX9_figure_52 (fun σ_5 H locs eσ hW hS => ?_)
            replace hm := rc_lt_at hm eσ
            clear eσ
            obtain ⟨v4_6, ev⟩ : ∃ y : Int32, y = (v4 + 1) := ⟨_, rfl⟩
            replace hm := rc_lt_at hm ev
            refine lv_iinc (v := v4_6) (lv' := [(4, .int v4_6), (3, .int v3_4), (0, .ref a0), (1, .int v1), (2, .int v2)]) hx hb dX9_figure_55 hl (k := 4) rfl (by rw [ev]; rfl) (by decide) rfl (fun ls hl => ?_)
            clear ev
            refine lv_goto (tgt := 5) hx hb dX9_figure_58 (by decide) ?_
            exact ih v3_4 v4_6 σ_5 _ _ _ hm hW hS (lv_sub hl [2, 3, 4, 1, 0] rfl)
  unfold f_X9_figure at hm
  refine lv_iconst (v := 0) hx hb dX9_figure_0 (by decide) ?_
  refine lv_istore_n (lv' := [(3, .int (0 : Int32)), (0, .ref a0), (1, .int u1), (2, .int u2)]) hx hb dX9_figure_1 rfl hl (by decide) rfl (fun ls hl => ?_)
  refine lv_iconst (v := 0) hx hb dX9_figure_2 (by decide) ?_
  refine lv_istore (lv' := [(4, .int (0 : Int32)), (3, .int (0 : Int32)), (0, .ref a0), (1, .int u1), (2, .int u2)]) hx hb dX9_figure_3 hl (by decide) rfl (fun ls hl => ?_)
  refine lp_5 u1 u2 _ (fun v3_10 v4_11 σ_12 H locs ls hm hW hS hl => ?_) rc_fu (0 : Int32) (0 : Int32) σ _ _ _ hm hW hS (lv_sub hl [2, 3, 4, 1, 0] rfl)
  refine lv_aload_n hx hb dX9_figure_61 rfl (lv_at hl 0 rfl) ?_
  refine lv_aload_n hx hb dX9_figure_62 rfl (lv_at hl 0 rfl) ?_
  refine rg_10_21 hx hb hts hown hK hW h0 tw_7_90 dX9_figure_63 ?_
  refine lv_if_ne (tgt := 74) hx hb dX9_figure_66 (by decide) (fun c_23 => ?_) (fun c_23 => ?_)
  · replace hm := rc_f hm c_23
    refine lv_iconst (v := 1) hx hb dX9_figure_74 (by decide) ?_
    refine lv_goto (tgt := 79) hx hb dX9_figure_75 (by decide) ?_
    refine rp_10_21 hx hb hts hown hK hW hS h0 tw_7_90 rfl rfl dX9_figure_79 (fun σ_13 H locs eσ hW hS => ?_)
    replace hm := rc_lt_at hm eσ
    clear eσ
    refine lv_aload_n hx hb dX9_figure_82 rfl (lv_at hl 0 rfl) ?_
    refine rg_10_8 hx hb hts hown hK hW h0 tw_7_77 dX9_figure_83 ?_
    refine lv_iconst (v := 4) hx hb dX9_figure_86 (by decide) ?_
    refine lv_aload_n hx hb dX9_figure_87 rfl (lv_at hl 0 rfl) ?_
    refine rg_10_20 hx hb hts hown hK hW h0 tw_7_89 dX9_figure_88 ?_
    refine lv_imul hx hb dX9_figure_91 ?_
    refine lv_iload_n hx hb dX9_figure_92 rfl (lv_at hl 1 rfl) ?_
    refine lv_iadd hx hb dX9_figure_93 ?_
    refine lv_iload_n hx hb dX9_figure_94 rfl (lv_at hl 2 rfl) ?_
    have hi_14 := (rc_ix hm).1
    replace hm := (rc_ix hm).2
    refine rc_iastj (j := (((4 : Int32) * (σ_13 a0 20)) + u1).toNatClampNeg) hx hb hK hW hS (rc_t_10_8 hT h0) (by decide) (fun _ => rfl) hi_14 rfl dX9_figure_95 (fun σ_15 H locs eσ hW hS => ?_)
    replace hm := rc_lt_at hm eσ
    clear eσ
    exact rc_evret hx hb hr hlocks hW hS (Nat.le_of_ble_eq_true rfl) (Nat.le_of_ble_eq_true rfl) hm dX9_figure_96
  · replace hm := rc_t hm c_23
    refine lv_iload hx hb dX9_figure_69 (lv_at hl 3 rfl) ?_
    refine lv_if_ne (tgt := 78) hx hb dX9_figure_71 (by decide) (fun c_22 => ?_) (fun c_22 => ?_)
    · replace hm := rc_f hm c_22
      refine lv_iconst (v := 0) hx hb dX9_figure_78 (by decide) ?_
      refine rp_10_21 hx hb hts hown hK hW hS h0 tw_7_90 rfl rfl dX9_figure_79 (fun σ_16 H locs eσ hW hS => ?_)
      replace hm := rc_lt_at hm eσ
      clear eσ
      refine lv_aload_n hx hb dX9_figure_82 rfl (lv_at hl 0 rfl) ?_
      refine rg_10_8 hx hb hts hown hK hW h0 tw_7_77 dX9_figure_83 ?_
      refine lv_iconst (v := 4) hx hb dX9_figure_86 (by decide) ?_
      refine lv_aload_n hx hb dX9_figure_87 rfl (lv_at hl 0 rfl) ?_
      refine rg_10_20 hx hb hts hown hK hW h0 tw_7_89 dX9_figure_88 ?_
      refine lv_imul hx hb dX9_figure_91 ?_
      refine lv_iload_n hx hb dX9_figure_92 rfl (lv_at hl 1 rfl) ?_
      refine lv_iadd hx hb dX9_figure_93 ?_
      refine lv_iload_n hx hb dX9_figure_94 rfl (lv_at hl 2 rfl) ?_
      have hi_17 := (rc_ix hm).1
      replace hm := (rc_ix hm).2
      refine rc_iastj (j := (((4 : Int32) * (σ_16 a0 20)) + u1).toNatClampNeg) hx hb hK hW hS (rc_t_10_8 hT h0) (by decide) (fun _ => rfl) hi_17 rfl dX9_figure_95 (fun σ_18 H locs eσ hW hS => ?_)
      replace hm := rc_lt_at hm eσ
      clear eσ
      exact rc_evret hx hb hr hlocks hW hS (Nat.le_of_ble_eq_true rfl) (Nat.le_of_ble_eq_true rfl) hm dX9_figure_96
    · replace hm := rc_t hm c_22
      refine lv_iconst (v := 1) hx hb dX9_figure_74 (by decide) ?_
      refine lv_goto (tgt := 79) hx hb dX9_figure_75 (by decide) ?_
      refine rp_10_21 hx hb hts hown hK hW hS h0 tw_7_90 rfl rfl dX9_figure_79 (fun σ_19 H locs eσ hW hS => ?_)
      replace hm := rc_lt_at hm eσ
      clear eσ
      refine lv_aload_n hx hb dX9_figure_82 rfl (lv_at hl 0 rfl) ?_
      refine rg_10_8 hx hb hts hown hK hW h0 tw_7_77 dX9_figure_83 ?_
      refine lv_iconst (v := 4) hx hb dX9_figure_86 (by decide) ?_
      refine lv_aload_n hx hb dX9_figure_87 rfl (lv_at hl 0 rfl) ?_
      refine rg_10_20 hx hb hts hown hK hW h0 tw_7_89 dX9_figure_88 ?_
      refine lv_imul hx hb dX9_figure_91 ?_
      refine lv_iload_n hx hb dX9_figure_92 rfl (lv_at hl 1 rfl) ?_
      refine lv_iadd hx hb dX9_figure_93 ?_
      refine lv_iload_n hx hb dX9_figure_94 rfl (lv_at hl 2 rfl) ?_
      have hi_20 := (rc_ix hm).1
      replace hm := (rc_ix hm).2
      refine rc_iastj (j := (((4 : Int32) * (σ_19 a0 20)) + u1).toNatClampNeg) hx hb hK hW hS (rc_t_10_8 hT h0) (by decide) (fun _ => rfl) hi_20 rfl dX9_figure_95 (fun σ_21 H locs eσ hW hS => ?_)
      replace hm := rc_lt_at hm eσ
      clear eσ
      exact rc_evret hx hb hr hlocks hW hS (Nat.le_of_ble_eq_true rfl) (Nat.le_of_ble_eq_true rfl) hm dX9_figure_96
set_option maxHeartbeats 4000000 in
set_option maxRecDepth 100000 in
theorem k_X9_readsOne (l : Launch) {Y : rc_Y} {sh : Nat → Nat} {rf : rc_F} (hT : rc_T Y sh rf) (a0 : Nat) (h0 : sh a0 = 10) (sz : Nat) (σ σ' : rc_S) (r : Unit) (hm : f_X9_readsOne rf a0 σ = some (r, σ')) : Met l yX9_readsOne (Cond.code yX9_readsOne cX9_readsOne 2 none :: rc_big) ({ frames := 2, cells := 0, slots := 0, locals := 46 } : Room) (rc_P Y sh rf σ sz [.ref a0]) (va_Qv (fun (_ : Unit) => True) (fun _ t => rc_W Y sh rf σ' t.heap) (rc_A sh sz)) 0 0 (rc_A sh sz) := by
  refine Met.ofW (cc := cX9_readsOne) (maxL := 2) (ret := none) (by decide +kernel) rfl ?_
  intro p e s m args below meth c s₁ B hml hv
  obtain ⟨rfl, hsz, hW, hK, hE⟩ := hv
  have hx := B.exec
  have hb := B.bytes
  have hr := B.returns
  have hts : ∀ w ∈ rc_big, w.before _ s = true := fun w h => atoms_spec (ws := Cond.code yX9_readsOne cX9_readsOne 2 none :: rc_big) B.pre w (List.mem_cons_of_mem _ h)
  have hown : s.vm.findClass RX9 = some m.cls := findClass_of_methodNamed B.named
  have hlocks := B.notSynchronized
  clear B
  subst hsz
  have hS : va_S (rc_A sh s.heap.size) s.heap s.heap [] := va_S.rf
  have hl := lv_entry ([.ref a0]) (n := 2) (Nat.le_of_ble_eq_true rfl)
  rw [lg_entry_eq]
  generalize (lg_sl ([.ref a0]) ++ List.replicate (2 - (lg_sl ([.ref a0])).length) Slot.unset).toArray = ls at hl ⊢
  have hl : lv_has ls 2 [(0, .ref a0)] := hl
  unfold f_X9_readsOne at hm
  refine lv_aload_n hx hb dX9_readsOne_0 rfl (lv_at hl 0 rfl) ?_
  obtain ⟨w_1, σ_1, hc_1, hm0⟩ := rc_bd_inv hm
  clear hm
  refine rc_ci hS (va_runV (As := []) (rest := []) ⟨hx, hb, hml, hown, hts⟩ (k_X9_here l hT a0 h0 s.heap.size _ _ _ hc_1) (cwV 0 hts (rc_gV tw_8_161 tw_8_163 tw_p_51 tw_1_14 tw_8_164) rfl rfl rfl (by decide +kernel) ⟨Nat.le_of_ble_eq_true rfl, Nat.le_of_ble_eq_true rfl⟩) (rc_preV hT hW hK hE hS h0 (by decide) rfl (q := (RX9, TX9, 22)) rfl []) rfl rfl hl.1 rfl (lv_room (Nat.le_of_ble_eq_true rfl)) dX9_readsOne_1 ⟨Nat.le_of_ble_eq_true rfl, Nat.le_of_ble_eq_true rfl⟩) (fun H locs hW hS => ?_)
  have hm := hm0
  clear hm0 hc_1
  refine lv_istore_n (lv' := [(1, .int w_1), (0, .ref a0)]) hx hb dX9_readsOne_4 rfl hl (by decide) rfl (fun ls hl => ?_)
  refine lv_aload_n hx hb dX9_readsOne_5 rfl (lv_at hl 1 rfl) ?_
  refine rg_10_8 hx hb hts hown hK hW h0 tw_7_77 dX9_readsOne_6 ?_
  refine lv_iconst (v := 4) hx hb dX9_readsOne_9 (by decide) ?_
  refine lv_aload_n hx hb dX9_readsOne_10 rfl (lv_at hl 1 rfl) ?_
  refine rg_10_20 hx hb hts hown hK hW h0 tw_7_89 dX9_readsOne_11 ?_
  refine lv_imul hx hb dX9_readsOne_14 ?_
  refine lv_iload_n hx hb dX9_readsOne_15 rfl (lv_at hl 0 rfl) ?_
  have hi_2 := (rc_ix hm).1
  replace hm := (rc_ix hm).2
  refine rc_iastj (j := ((4 : Int32) * (σ_1 a0 20)).toNatClampNeg) hx hb hK hW hS (rc_t_10_8 hT h0) (by decide) (fun _ => rfl) hi_2 rfl dX9_readsOne_16 (fun σ_3 H locs eσ hW hS => ?_)
  replace hm := rc_lt_at hm eσ
  clear eσ
  refine lv_aload_n hx hb dX9_readsOne_17 rfl (lv_at hl 1 rfl) ?_
  refine lv_dup hx hb dX9_readsOne_18 rfl ?_
  refine rg_10_18 hx hb hts hown hK hW h0 tw_7_87 dX9_readsOne_19 ?_
  refine lv_iload_n hx hb dX9_readsOne_22 rfl (lv_at hl 0 rfl) ?_
  refine lv_iconst (v := (-1)) hx hb dX9_readsOne_23 (by decide) ?_
  refine lv_icmp_ne (tgt := 31) hx hb dX9_readsOne_24 (by decide) (fun c_98 => ?_) (fun c_98 => ?_)
  · replace hm := rc_f hm c_98
    refine lv_iconst (v := 1) hx hb dX9_readsOne_31 (by decide) ?_
    refine lv_iadd hx hb dX9_readsOne_32 ?_
    refine rp_10_18 hx hb hts hown hK hW hS h0 tw_7_87 dX9_readsOne_33 (fun σ_4 H locs eσ hW hS => ?_)
    replace hm := rc_lt_at hm eσ
    clear eσ
    refine lv_iload_n hx hb dX9_readsOne_36 rfl (lv_at hl 0 rfl) ?_
    by_cases c_5 : w_1 = (98 : Int32)
    · replace hm := rc_t hm c_5
      refine lv_tableIn (off := 186) (tgt := 223) hx hb dX9_readsOne_37 (by rw [c_5]; decide) (by rw [c_5]; decide) (by rw [c_5]; decide) (by decide) ?_
      refine lv_aload_n hx hb dX9_readsOne_223 rfl (lv_at hl 1 rfl) ?_
      refine lv_iconst (v := 1) hx hb dX9_readsOne_224 (by decide) ?_
      refine lv_iconst (v := 1) hx hb dX9_readsOne_225 (by decide) ?_
      obtain ⟨w_6, σ_6, hc_6, hm0⟩ := rc_bd_inv hm
      clear hm
      refine rc_cv hS (va_runV (As := [.int (1 : Int32), .int (1 : Int32)]) (rest := []) ⟨hx, hb, hml, hown, hts⟩ (k_X9_figure l hT a0 (1 : Int32) (1 : Int32) h0 H.size _ _ _ hc_6) (cwV 2 hts (rc_gV tw_8_165 tw_8_167 tw_p_52 tw_1_14 tw_8_168) rfl rfl rfl (by decide +kernel) ⟨Nat.le_of_ble_eq_true rfl, Nat.le_of_ble_eq_true rfl⟩) (rc_preV hT hW hK hE hS h0 (by decide) rfl (q := (RX9, TX9, 22)) rfl [.int (1 : Int32), .int (1 : Int32)]) rfl rfl hl.1 rfl (lv_room (Nat.le_of_ble_eq_true rfl)) dX9_readsOne_226 ⟨Nat.le_of_ble_eq_true rfl, Nat.le_of_ble_eq_true rfl⟩) (fun H locs hW hS => ?_)
      have hm := hm0
      clear hm0 hc_6
      refine lv_goto (tgt := 259) hx hb dX9_readsOne_229 (by decide) ?_
      refine lv_aload_n hx hb dX9_readsOne_259 rfl (lv_at hl 1 rfl) ?_
      refine lv_dup hx hb dX9_readsOne_260 rfl ?_
      refine rg_10_20 hx hb hts hown hK hW h0 tw_7_89 dX9_readsOne_261 ?_
      refine lv_iconst (v := 1) hx hb dX9_readsOne_264 (by decide) ?_
      refine lv_iadd hx hb dX9_readsOne_265 ?_
      refine rp_10_20 hx hb hts hown hK hW hS h0 tw_7_89 dX9_readsOne_266 (fun σ_7 H locs eσ hW hS => ?_)
      replace hm := rc_lt_at hm eσ
      clear eσ
      exact rc_evret hx hb hr hlocks hW hS (Nat.le_of_ble_eq_true rfl) (Nat.le_of_ble_eq_true rfl) hm dX9_readsOne_269
    · replace hm := rc_f hm c_5
      by_cases c_8 : w_1 = (99 : Int32)
      · replace hm := rc_t hm c_8
        refine lv_tableIn (off := 186) (tgt := 223) hx hb dX9_readsOne_37 (by rw [c_8]; decide) (by rw [c_8]; decide) (by rw [c_8]; decide) (by decide) ?_
        refine lv_aload_n hx hb dX9_readsOne_223 rfl (lv_at hl 1 rfl) ?_
        refine lv_iconst (v := 1) hx hb dX9_readsOne_224 (by decide) ?_
        refine lv_iconst (v := 1) hx hb dX9_readsOne_225 (by decide) ?_
        obtain ⟨w_9, σ_9, hc_9, hm0⟩ := rc_bd_inv hm
        clear hm
        refine rc_cv hS (va_runV (As := [.int (1 : Int32), .int (1 : Int32)]) (rest := []) ⟨hx, hb, hml, hown, hts⟩ (k_X9_figure l hT a0 (1 : Int32) (1 : Int32) h0 H.size _ _ _ hc_9) (cwV 2 hts (rc_gV tw_8_165 tw_8_167 tw_p_52 tw_1_14 tw_8_168) rfl rfl rfl (by decide +kernel) ⟨Nat.le_of_ble_eq_true rfl, Nat.le_of_ble_eq_true rfl⟩) (rc_preV hT hW hK hE hS h0 (by decide) rfl (q := (RX9, TX9, 22)) rfl [.int (1 : Int32), .int (1 : Int32)]) rfl rfl hl.1 rfl (lv_room (Nat.le_of_ble_eq_true rfl)) dX9_readsOne_226 ⟨Nat.le_of_ble_eq_true rfl, Nat.le_of_ble_eq_true rfl⟩) (fun H locs hW hS => ?_)
        have hm := hm0
        clear hm0 hc_9
        refine lv_goto (tgt := 259) hx hb dX9_readsOne_229 (by decide) ?_
        refine lv_aload_n hx hb dX9_readsOne_259 rfl (lv_at hl 1 rfl) ?_
        refine lv_dup hx hb dX9_readsOne_260 rfl ?_
        refine rg_10_20 hx hb hts hown hK hW h0 tw_7_89 dX9_readsOne_261 ?_
        refine lv_iconst (v := 1) hx hb dX9_readsOne_264 (by decide) ?_
        refine lv_iadd hx hb dX9_readsOne_265 ?_
        refine rp_10_20 hx hb hts hown hK hW hS h0 tw_7_89 dX9_readsOne_266 (fun σ_10 H locs eσ hW hS => ?_)
        replace hm := rc_lt_at hm eσ
        clear eσ
        exact rc_evret hx hb hr hlocks hW hS (Nat.le_of_ble_eq_true rfl) (Nat.le_of_ble_eq_true rfl) hm dX9_readsOne_269
      · replace hm := rc_f hm c_8
        by_cases c_11 : w_1 = (103 : Int32)
        · replace hm := rc_t hm c_11
          refine lv_tableIn (off := 186) (tgt := 223) hx hb dX9_readsOne_37 (by rw [c_11]; decide) (by rw [c_11]; decide) (by rw [c_11]; decide) (by decide) ?_
          refine lv_aload_n hx hb dX9_readsOne_223 rfl (lv_at hl 1 rfl) ?_
          refine lv_iconst (v := 1) hx hb dX9_readsOne_224 (by decide) ?_
          refine lv_iconst (v := 1) hx hb dX9_readsOne_225 (by decide) ?_
          obtain ⟨w_12, σ_12, hc_12, hm0⟩ := rc_bd_inv hm
          clear hm
          refine rc_cv hS (va_runV (As := [.int (1 : Int32), .int (1 : Int32)]) (rest := []) ⟨hx, hb, hml, hown, hts⟩ (k_X9_figure l hT a0 (1 : Int32) (1 : Int32) h0 H.size _ _ _ hc_12) (cwV 2 hts (rc_gV tw_8_165 tw_8_167 tw_p_52 tw_1_14 tw_8_168) rfl rfl rfl (by decide +kernel) ⟨Nat.le_of_ble_eq_true rfl, Nat.le_of_ble_eq_true rfl⟩) (rc_preV hT hW hK hE hS h0 (by decide) rfl (q := (RX9, TX9, 22)) rfl [.int (1 : Int32), .int (1 : Int32)]) rfl rfl hl.1 rfl (lv_room (Nat.le_of_ble_eq_true rfl)) dX9_readsOne_226 ⟨Nat.le_of_ble_eq_true rfl, Nat.le_of_ble_eq_true rfl⟩) (fun H locs hW hS => ?_)
          have hm := hm0
          clear hm0 hc_12
          refine lv_goto (tgt := 259) hx hb dX9_readsOne_229 (by decide) ?_
          refine lv_aload_n hx hb dX9_readsOne_259 rfl (lv_at hl 1 rfl) ?_
          refine lv_dup hx hb dX9_readsOne_260 rfl ?_
          refine rg_10_20 hx hb hts hown hK hW h0 tw_7_89 dX9_readsOne_261 ?_
          refine lv_iconst (v := 1) hx hb dX9_readsOne_264 (by decide) ?_
          refine lv_iadd hx hb dX9_readsOne_265 ?_
          refine rp_10_20 hx hb hts hown hK hW hS h0 tw_7_89 dX9_readsOne_266 (fun σ_13 H locs eσ hW hS => ?_)
          replace hm := rc_lt_at hm eσ
          clear eσ
          exact rc_evret hx hb hr hlocks hW hS (Nat.le_of_ble_eq_true rfl) (Nat.le_of_ble_eq_true rfl) hm dX9_readsOne_269
        · replace hm := rc_f hm c_11
          by_cases c_14 : w_1 = (104 : Int32)
          · replace hm := rc_t hm c_14
            refine lv_tableIn (off := 165) (tgt := 202) hx hb dX9_readsOne_37 (by rw [c_14]; decide) (by rw [c_14]; decide) (by rw [c_14]; decide) (by decide) ?_
            refine lv_aload_n hx hb dX9_readsOne_202 rfl (lv_at hl 1 rfl) ?_
            refine lv_iconst (v := 1) hx hb dX9_readsOne_203 (by decide) ?_
            refine lv_iconst (v := 1) hx hb dX9_readsOne_204 (by decide) ?_
            obtain ⟨w_15, σ_15, hc_15, hm0⟩ := rc_bd_inv hm
            clear hm
            refine rc_cv hS (va_runV (As := [.int (1 : Int32), .int (1 : Int32)]) (rest := []) ⟨hx, hb, hml, hown, hts⟩ (k_X9_figure l hT a0 (1 : Int32) (1 : Int32) h0 H.size _ _ _ hc_15) (cwV 2 hts (rc_gV tw_8_165 tw_8_167 tw_p_52 tw_1_14 tw_8_168) rfl rfl rfl (by decide +kernel) ⟨Nat.le_of_ble_eq_true rfl, Nat.le_of_ble_eq_true rfl⟩) (rc_preV hT hW hK hE hS h0 (by decide) rfl (q := (RX9, TX9, 22)) rfl [.int (1 : Int32), .int (1 : Int32)]) rfl rfl hl.1 rfl (lv_room (Nat.le_of_ble_eq_true rfl)) dX9_readsOne_205 ⟨Nat.le_of_ble_eq_true rfl, Nat.le_of_ble_eq_true rfl⟩) (fun H locs hW hS => ?_)
            have hm := hm0
            clear hm0 hc_15
            refine lv_aload_n hx hb dX9_readsOne_208 rfl (lv_at hl 1 rfl) ?_
            refine lv_bipush (v := 61) hx hb dX9_readsOne_209 (by decide) ?_
            obtain ⟨w_16, σ_16, hc_16, hm0⟩ := rc_bd_inv hm
            clear hm
            refine rc_cv hS (va_runV (As := [.int (61 : Int32)]) (rest := []) ⟨hx, hb, hml, hown, hts⟩ (k_X9_sign l hT a0 (61 : Int32) h0 H.size _ _ _ hc_16) (cwV 1 hts (rc_gV tw_8_169 tw_8_171 tw_p_53 tw_1_14 tw_8_172) rfl rfl rfl (by decide +kernel) ⟨Nat.le_of_ble_eq_true rfl, Nat.le_of_ble_eq_true rfl⟩) (rc_preV hT hW hK hE hS h0 (by decide) rfl (q := (RX9, TX9, 22)) rfl [.int (61 : Int32)]) rfl rfl hl.1 rfl (lv_room (Nat.le_of_ble_eq_true rfl)) dX9_readsOne_211 ⟨Nat.le_of_ble_eq_true rfl, Nat.le_of_ble_eq_true rfl⟩) (fun H locs hW hS => ?_)
            have hm := hm0
            clear hm0 hc_16
            refine lv_aload_n hx hb dX9_readsOne_214 rfl (lv_at hl 1 rfl) ?_
            refine lv_iconst (v := 2) hx hb dX9_readsOne_215 (by decide) ?_
            refine lv_iconst (v := 2) hx hb dX9_readsOne_216 (by decide) ?_
            obtain ⟨w_17, σ_17, hc_17, hm0⟩ := rc_bd_inv hm
            clear hm
            refine rc_cv hS (va_runV (As := [.int (2 : Int32), .int (2 : Int32)]) (rest := []) ⟨hx, hb, hml, hown, hts⟩ (k_X9_figure l hT a0 (2 : Int32) (2 : Int32) h0 H.size _ _ _ hc_17) (cwV 2 hts (rc_gV tw_8_165 tw_8_167 tw_p_52 tw_1_14 tw_8_168) rfl rfl rfl (by decide +kernel) ⟨Nat.le_of_ble_eq_true rfl, Nat.le_of_ble_eq_true rfl⟩) (rc_preV hT hW hK hE hS h0 (by decide) rfl (q := (RX9, TX9, 22)) rfl [.int (2 : Int32), .int (2 : Int32)]) rfl rfl hl.1 rfl (lv_room (Nat.le_of_ble_eq_true rfl)) dX9_readsOne_217 ⟨Nat.le_of_ble_eq_true rfl, Nat.le_of_ble_eq_true rfl⟩) (fun H locs hW hS => ?_)
            have hm := hm0
            clear hm0 hc_17
            refine lv_goto (tgt := 259) hx hb dX9_readsOne_220 (by decide) ?_
            refine lv_aload_n hx hb dX9_readsOne_259 rfl (lv_at hl 1 rfl) ?_
            refine lv_dup hx hb dX9_readsOne_260 rfl ?_
            refine rg_10_20 hx hb hts hown hK hW h0 tw_7_89 dX9_readsOne_261 ?_
            refine lv_iconst (v := 1) hx hb dX9_readsOne_264 (by decide) ?_
            refine lv_iadd hx hb dX9_readsOne_265 ?_
            refine rp_10_20 hx hb hts hown hK hW hS h0 tw_7_89 dX9_readsOne_266 (fun σ_18 H locs eσ hW hS => ?_)
            replace hm := rc_lt_at hm eσ
            clear eσ
            exact rc_evret hx hb hr hlocks hW hS (Nat.le_of_ble_eq_true rfl) (Nat.le_of_ble_eq_true rfl) hm dX9_readsOne_269
          · replace hm := rc_f hm c_14
            by_cases c_19 : w_1 = (108 : Int32)
            · replace hm := rc_t hm c_19
              refine lv_tableIn (off := 186) (tgt := 223) hx hb dX9_readsOne_37 (by rw [c_19]; decide) (by rw [c_19]; decide) (by rw [c_19]; decide) (by decide) ?_
              refine lv_aload_n hx hb dX9_readsOne_223 rfl (lv_at hl 1 rfl) ?_
              refine lv_iconst (v := 1) hx hb dX9_readsOne_224 (by decide) ?_
              refine lv_iconst (v := 1) hx hb dX9_readsOne_225 (by decide) ?_
              obtain ⟨w_20, σ_20, hc_20, hm0⟩ := rc_bd_inv hm
              clear hm
              refine rc_cv hS (va_runV (As := [.int (1 : Int32), .int (1 : Int32)]) (rest := []) ⟨hx, hb, hml, hown, hts⟩ (k_X9_figure l hT a0 (1 : Int32) (1 : Int32) h0 H.size _ _ _ hc_20) (cwV 2 hts (rc_gV tw_8_165 tw_8_167 tw_p_52 tw_1_14 tw_8_168) rfl rfl rfl (by decide +kernel) ⟨Nat.le_of_ble_eq_true rfl, Nat.le_of_ble_eq_true rfl⟩) (rc_preV hT hW hK hE hS h0 (by decide) rfl (q := (RX9, TX9, 22)) rfl [.int (1 : Int32), .int (1 : Int32)]) rfl rfl hl.1 rfl (lv_room (Nat.le_of_ble_eq_true rfl)) dX9_readsOne_226 ⟨Nat.le_of_ble_eq_true rfl, Nat.le_of_ble_eq_true rfl⟩) (fun H locs hW hS => ?_)
              have hm := hm0
              clear hm0 hc_20
              refine lv_goto (tgt := 259) hx hb dX9_readsOne_229 (by decide) ?_
              refine lv_aload_n hx hb dX9_readsOne_259 rfl (lv_at hl 1 rfl) ?_
              refine lv_dup hx hb dX9_readsOne_260 rfl ?_
              refine rg_10_20 hx hb hts hown hK hW h0 tw_7_89 dX9_readsOne_261 ?_
              refine lv_iconst (v := 1) hx hb dX9_readsOne_264 (by decide) ?_
              refine lv_iadd hx hb dX9_readsOne_265 ?_
              refine rp_10_20 hx hb hts hown hK hW hS h0 tw_7_89 dX9_readsOne_266 (fun σ_21 H locs eσ hW hS => ?_)
              replace hm := rc_lt_at hm eσ
              clear eσ
              exact rc_evret hx hb hr hlocks hW hS (Nat.le_of_ble_eq_true rfl) (Nat.le_of_ble_eq_true rfl) hm dX9_readsOne_269
            · replace hm := rc_f hm c_19
              by_cases c_22 : w_1 = (109 : Int32)
              · replace hm := rc_t hm c_22
                refine lv_tableIn (off := 186) (tgt := 223) hx hb dX9_readsOne_37 (by rw [c_22]; decide) (by rw [c_22]; decide) (by rw [c_22]; decide) (by decide) ?_
                refine lv_aload_n hx hb dX9_readsOne_223 rfl (lv_at hl 1 rfl) ?_
                refine lv_iconst (v := 1) hx hb dX9_readsOne_224 (by decide) ?_
                refine lv_iconst (v := 1) hx hb dX9_readsOne_225 (by decide) ?_
                obtain ⟨w_23, σ_23, hc_23, hm0⟩ := rc_bd_inv hm
                clear hm
                refine rc_cv hS (va_runV (As := [.int (1 : Int32), .int (1 : Int32)]) (rest := []) ⟨hx, hb, hml, hown, hts⟩ (k_X9_figure l hT a0 (1 : Int32) (1 : Int32) h0 H.size _ _ _ hc_23) (cwV 2 hts (rc_gV tw_8_165 tw_8_167 tw_p_52 tw_1_14 tw_8_168) rfl rfl rfl (by decide +kernel) ⟨Nat.le_of_ble_eq_true rfl, Nat.le_of_ble_eq_true rfl⟩) (rc_preV hT hW hK hE hS h0 (by decide) rfl (q := (RX9, TX9, 22)) rfl [.int (1 : Int32), .int (1 : Int32)]) rfl rfl hl.1 rfl (lv_room (Nat.le_of_ble_eq_true rfl)) dX9_readsOne_226 ⟨Nat.le_of_ble_eq_true rfl, Nat.le_of_ble_eq_true rfl⟩) (fun H locs hW hS => ?_)
                have hm := hm0
                clear hm0 hc_23
                refine lv_goto (tgt := 259) hx hb dX9_readsOne_229 (by decide) ?_
                refine lv_aload_n hx hb dX9_readsOne_259 rfl (lv_at hl 1 rfl) ?_
                refine lv_dup hx hb dX9_readsOne_260 rfl ?_
                refine rg_10_20 hx hb hts hown hK hW h0 tw_7_89 dX9_readsOne_261 ?_
                refine lv_iconst (v := 1) hx hb dX9_readsOne_264 (by decide) ?_
                refine lv_iadd hx hb dX9_readsOne_265 ?_
                refine rp_10_20 hx hb hts hown hK hW hS h0 tw_7_89 dX9_readsOne_266 (fun σ_24 H locs eσ hW hS => ?_)
                replace hm := rc_lt_at hm eσ
                clear eσ
                exact rc_evret hx hb hr hlocks hW hS (Nat.le_of_ble_eq_true rfl) (Nat.le_of_ble_eq_true rfl) hm dX9_readsOne_269
              · replace hm := rc_f hm c_22
                by_cases c_25 : w_1 = (112 : Int32)
                · replace hm := rc_t hm c_25
                  refine lv_tableIn (off := 132) (tgt := 169) hx hb dX9_readsOne_37 (by rw [c_25]; decide) (by rw [c_25]; decide) (by rw [c_25]; decide) (by decide) ?_
                  refine lv_aload_n hx hb dX9_readsOne_169 rfl (lv_at hl 1 rfl) ?_
                  refine lv_iconst (v := 1) hx hb dX9_readsOne_170 (by decide) ?_
                  refine lv_iconst (v := 1) hx hb dX9_readsOne_171 (by decide) ?_
                  obtain ⟨w_26, σ_26, hc_26, hm0⟩ := rc_bd_inv hm
                  clear hm
                  refine rc_cv hS (va_runV (As := [.int (1 : Int32), .int (1 : Int32)]) (rest := []) ⟨hx, hb, hml, hown, hts⟩ (k_X9_figure l hT a0 (1 : Int32) (1 : Int32) h0 H.size _ _ _ hc_26) (cwV 2 hts (rc_gV tw_8_165 tw_8_167 tw_p_52 tw_1_14 tw_8_168) rfl rfl rfl (by decide +kernel) ⟨Nat.le_of_ble_eq_true rfl, Nat.le_of_ble_eq_true rfl⟩) (rc_preV hT hW hK hE hS h0 (by decide) rfl (q := (RX9, TX9, 22)) rfl [.int (1 : Int32), .int (1 : Int32)]) rfl rfl hl.1 rfl (lv_room (Nat.le_of_ble_eq_true rfl)) dX9_readsOne_172 ⟨Nat.le_of_ble_eq_true rfl, Nat.le_of_ble_eq_true rfl⟩) (fun H locs hW hS => ?_)
                  have hm := hm0
                  clear hm0 hc_26
                  refine lv_aload_n hx hb dX9_readsOne_175 rfl (lv_at hl 1 rfl) ?_
                  refine lv_bipush (v := 62) hx hb dX9_readsOne_176 (by decide) ?_
                  obtain ⟨w_27, σ_27, hc_27, hm0⟩ := rc_bd_inv hm
                  clear hm
                  refine rc_cv hS (va_runV (As := [.int (62 : Int32)]) (rest := []) ⟨hx, hb, hml, hown, hts⟩ (k_X9_sign l hT a0 (62 : Int32) h0 H.size _ _ _ hc_27) (cwV 1 hts (rc_gV tw_8_169 tw_8_171 tw_p_53 tw_1_14 tw_8_172) rfl rfl rfl (by decide +kernel) ⟨Nat.le_of_ble_eq_true rfl, Nat.le_of_ble_eq_true rfl⟩) (rc_preV hT hW hK hE hS h0 (by decide) rfl (q := (RX9, TX9, 22)) rfl [.int (62 : Int32)]) rfl rfl hl.1 rfl (lv_room (Nat.le_of_ble_eq_true rfl)) dX9_readsOne_178 ⟨Nat.le_of_ble_eq_true rfl, Nat.le_of_ble_eq_true rfl⟩) (fun H locs hW hS => ?_)
                  have hm := hm0
                  clear hm0 hc_27
                  refine lv_aload_n hx hb dX9_readsOne_181 rfl (lv_at hl 1 rfl) ?_
                  refine lv_iconst (v := 2) hx hb dX9_readsOne_182 (by decide) ?_
                  refine lv_iconst (v := 1) hx hb dX9_readsOne_183 (by decide) ?_
                  obtain ⟨w_28, σ_28, hc_28, hm0⟩ := rc_bd_inv hm
                  clear hm
                  refine rc_cv hS (va_runV (As := [.int (2 : Int32), .int (1 : Int32)]) (rest := []) ⟨hx, hb, hml, hown, hts⟩ (k_X9_figure l hT a0 (2 : Int32) (1 : Int32) h0 H.size _ _ _ hc_28) (cwV 2 hts (rc_gV tw_8_165 tw_8_167 tw_p_52 tw_1_14 tw_8_168) rfl rfl rfl (by decide +kernel) ⟨Nat.le_of_ble_eq_true rfl, Nat.le_of_ble_eq_true rfl⟩) (rc_preV hT hW hK hE hS h0 (by decide) rfl (q := (RX9, TX9, 22)) rfl [.int (2 : Int32), .int (1 : Int32)]) rfl rfl hl.1 rfl (lv_room (Nat.le_of_ble_eq_true rfl)) dX9_readsOne_184 ⟨Nat.le_of_ble_eq_true rfl, Nat.le_of_ble_eq_true rfl⟩) (fun H locs hW hS => ?_)
                  have hm := hm0
                  clear hm0 hc_28
                  refine lv_aload_n hx hb dX9_readsOne_187 rfl (lv_at hl 1 rfl) ?_
                  refine lv_bipush (v := 61) hx hb dX9_readsOne_188 (by decide) ?_
                  obtain ⟨w_29, σ_29, hc_29, hm0⟩ := rc_bd_inv hm
                  clear hm
                  refine rc_cv hS (va_runV (As := [.int (61 : Int32)]) (rest := []) ⟨hx, hb, hml, hown, hts⟩ (k_X9_sign l hT a0 (61 : Int32) h0 H.size _ _ _ hc_29) (cwV 1 hts (rc_gV tw_8_169 tw_8_171 tw_p_53 tw_1_14 tw_8_172) rfl rfl rfl (by decide +kernel) ⟨Nat.le_of_ble_eq_true rfl, Nat.le_of_ble_eq_true rfl⟩) (rc_preV hT hW hK hE hS h0 (by decide) rfl (q := (RX9, TX9, 22)) rfl [.int (61 : Int32)]) rfl rfl hl.1 rfl (lv_room (Nat.le_of_ble_eq_true rfl)) dX9_readsOne_190 ⟨Nat.le_of_ble_eq_true rfl, Nat.le_of_ble_eq_true rfl⟩) (fun H locs hW hS => ?_)
                  have hm := hm0
                  clear hm0 hc_29
                  refine lv_aload_n hx hb dX9_readsOne_193 rfl (lv_at hl 1 rfl) ?_
                  refine lv_iconst (v := 3) hx hb dX9_readsOne_194 (by decide) ?_
                  refine lv_iconst (v := 2) hx hb dX9_readsOne_195 (by decide) ?_
                  obtain ⟨w_30, σ_30, hc_30, hm0⟩ := rc_bd_inv hm
                  clear hm
                  refine rc_cv hS (va_runV (As := [.int (3 : Int32), .int (2 : Int32)]) (rest := []) ⟨hx, hb, hml, hown, hts⟩ (k_X9_figure l hT a0 (3 : Int32) (2 : Int32) h0 H.size _ _ _ hc_30) (cwV 2 hts (rc_gV tw_8_165 tw_8_167 tw_p_52 tw_1_14 tw_8_168) rfl rfl rfl (by decide +kernel) ⟨Nat.le_of_ble_eq_true rfl, Nat.le_of_ble_eq_true rfl⟩) (rc_preV hT hW hK hE hS h0 (by decide) rfl (q := (RX9, TX9, 22)) rfl [.int (3 : Int32), .int (2 : Int32)]) rfl rfl hl.1 rfl (lv_room (Nat.le_of_ble_eq_true rfl)) dX9_readsOne_196 ⟨Nat.le_of_ble_eq_true rfl, Nat.le_of_ble_eq_true rfl⟩) (fun H locs hW hS => ?_)
                  have hm := hm0
                  clear hm0 hc_30
                  refine lv_goto (tgt := 259) hx hb dX9_readsOne_199 (by decide) ?_
                  refine lv_aload_n hx hb dX9_readsOne_259 rfl (lv_at hl 1 rfl) ?_
                  refine lv_dup hx hb dX9_readsOne_260 rfl ?_
                  refine rg_10_20 hx hb hts hown hK hW h0 tw_7_89 dX9_readsOne_261 ?_
                  refine lv_iconst (v := 1) hx hb dX9_readsOne_264 (by decide) ?_
                  refine lv_iadd hx hb dX9_readsOne_265 ?_
                  refine rp_10_20 hx hb hts hown hK hW hS h0 tw_7_89 dX9_readsOne_266 (fun σ_31 H locs eσ hW hS => ?_)
                  replace hm := rc_lt_at hm eσ
                  clear eσ
                  exact rc_evret hx hb hr hlocks hW hS (Nat.le_of_ble_eq_true rfl) (Nat.le_of_ble_eq_true rfl) hm dX9_readsOne_269
                · replace hm := rc_f hm c_25
                  by_cases c_32 : w_1 = (115 : Int32)
                  · replace hm := rc_t hm c_32
                    refine lv_tableIn (off := 111) (tgt := 148) hx hb dX9_readsOne_37 (by rw [c_32]; decide) (by rw [c_32]; decide) (by rw [c_32]; decide) (by decide) ?_
                    refine lv_aload_n hx hb dX9_readsOne_148 rfl (lv_at hl 1 rfl) ?_
                    refine lv_iconst (v := 1) hx hb dX9_readsOne_149 (by decide) ?_
                    refine lv_iconst (v := 1) hx hb dX9_readsOne_150 (by decide) ?_
                    obtain ⟨w_33, σ_33, hc_33, hm0⟩ := rc_bd_inv hm
                    clear hm
                    refine rc_cv hS (va_runV (As := [.int (1 : Int32), .int (1 : Int32)]) (rest := []) ⟨hx, hb, hml, hown, hts⟩ (k_X9_figure l hT a0 (1 : Int32) (1 : Int32) h0 H.size _ _ _ hc_33) (cwV 2 hts (rc_gV tw_8_165 tw_8_167 tw_p_52 tw_1_14 tw_8_168) rfl rfl rfl (by decide +kernel) ⟨Nat.le_of_ble_eq_true rfl, Nat.le_of_ble_eq_true rfl⟩) (rc_preV hT hW hK hE hS h0 (by decide) rfl (q := (RX9, TX9, 22)) rfl [.int (1 : Int32), .int (1 : Int32)]) rfl rfl hl.1 rfl (lv_room (Nat.le_of_ble_eq_true rfl)) dX9_readsOne_151 ⟨Nat.le_of_ble_eq_true rfl, Nat.le_of_ble_eq_true rfl⟩) (fun H locs hW hS => ?_)
                    have hm := hm0
                    clear hm0 hc_33
                    refine lv_aload_n hx hb dX9_readsOne_154 rfl (lv_at hl 1 rfl) ?_
                    refine lv_bipush (v := 42) hx hb dX9_readsOne_155 (by decide) ?_
                    obtain ⟨w_34, σ_34, hc_34, hm0⟩ := rc_bd_inv hm
                    clear hm
                    refine rc_cv hS (va_runV (As := [.int (42 : Int32)]) (rest := []) ⟨hx, hb, hml, hown, hts⟩ (k_X9_sign l hT a0 (42 : Int32) h0 H.size _ _ _ hc_34) (cwV 1 hts (rc_gV tw_8_169 tw_8_171 tw_p_53 tw_1_14 tw_8_172) rfl rfl rfl (by decide +kernel) ⟨Nat.le_of_ble_eq_true rfl, Nat.le_of_ble_eq_true rfl⟩) (rc_preV hT hW hK hE hS h0 (by decide) rfl (q := (RX9, TX9, 22)) rfl [.int (42 : Int32)]) rfl rfl hl.1 rfl (lv_room (Nat.le_of_ble_eq_true rfl)) dX9_readsOne_157 ⟨Nat.le_of_ble_eq_true rfl, Nat.le_of_ble_eq_true rfl⟩) (fun H locs hW hS => ?_)
                    have hm := hm0
                    clear hm0 hc_34
                    refine lv_aload_n hx hb dX9_readsOne_160 rfl (lv_at hl 1 rfl) ?_
                    refine lv_iconst (v := 2) hx hb dX9_readsOne_161 (by decide) ?_
                    refine lv_iconst (v := 1) hx hb dX9_readsOne_162 (by decide) ?_
                    obtain ⟨w_35, σ_35, hc_35, hm0⟩ := rc_bd_inv hm
                    clear hm
                    refine rc_cv hS (va_runV (As := [.int (2 : Int32), .int (1 : Int32)]) (rest := []) ⟨hx, hb, hml, hown, hts⟩ (k_X9_figure l hT a0 (2 : Int32) (1 : Int32) h0 H.size _ _ _ hc_35) (cwV 2 hts (rc_gV tw_8_165 tw_8_167 tw_p_52 tw_1_14 tw_8_168) rfl rfl rfl (by decide +kernel) ⟨Nat.le_of_ble_eq_true rfl, Nat.le_of_ble_eq_true rfl⟩) (rc_preV hT hW hK hE hS h0 (by decide) rfl (q := (RX9, TX9, 22)) rfl [.int (2 : Int32), .int (1 : Int32)]) rfl rfl hl.1 rfl (lv_room (Nat.le_of_ble_eq_true rfl)) dX9_readsOne_163 ⟨Nat.le_of_ble_eq_true rfl, Nat.le_of_ble_eq_true rfl⟩) (fun H locs hW hS => ?_)
                    have hm := hm0
                    clear hm0 hc_35
                    refine lv_goto (tgt := 259) hx hb dX9_readsOne_166 (by decide) ?_
                    refine lv_aload_n hx hb dX9_readsOne_259 rfl (lv_at hl 1 rfl) ?_
                    refine lv_dup hx hb dX9_readsOne_260 rfl ?_
                    refine rg_10_20 hx hb hts hown hK hW h0 tw_7_89 dX9_readsOne_261 ?_
                    refine lv_iconst (v := 1) hx hb dX9_readsOne_264 (by decide) ?_
                    refine lv_iadd hx hb dX9_readsOne_265 ?_
                    refine rp_10_20 hx hb hts hown hK hW hS h0 tw_7_89 dX9_readsOne_266 (fun σ_36 H locs eσ hW hS => ?_)
                    replace hm := rc_lt_at hm eσ
                    clear eσ
                    exact rc_evret hx hb hr hlocks hW hS (Nat.le_of_ble_eq_true rfl) (Nat.le_of_ble_eq_true rfl) hm dX9_readsOne_269
                  · replace hm := rc_f hm c_32
                    by_cases c_37 : w_1 = (116 : Int32)
                    · replace hm := rc_t hm c_37
                      refine lv_tableIn (off := 186) (tgt := 223) hx hb dX9_readsOne_37 (by rw [c_37]; decide) (by rw [c_37]; decide) (by rw [c_37]; decide) (by decide) ?_
                      refine lv_aload_n hx hb dX9_readsOne_223 rfl (lv_at hl 1 rfl) ?_
                      refine lv_iconst (v := 1) hx hb dX9_readsOne_224 (by decide) ?_
                      refine lv_iconst (v := 1) hx hb dX9_readsOne_225 (by decide) ?_
                      obtain ⟨w_38, σ_38, hc_38, hm0⟩ := rc_bd_inv hm
                      clear hm
                      refine rc_cv hS (va_runV (As := [.int (1 : Int32), .int (1 : Int32)]) (rest := []) ⟨hx, hb, hml, hown, hts⟩ (k_X9_figure l hT a0 (1 : Int32) (1 : Int32) h0 H.size _ _ _ hc_38) (cwV 2 hts (rc_gV tw_8_165 tw_8_167 tw_p_52 tw_1_14 tw_8_168) rfl rfl rfl (by decide +kernel) ⟨Nat.le_of_ble_eq_true rfl, Nat.le_of_ble_eq_true rfl⟩) (rc_preV hT hW hK hE hS h0 (by decide) rfl (q := (RX9, TX9, 22)) rfl [.int (1 : Int32), .int (1 : Int32)]) rfl rfl hl.1 rfl (lv_room (Nat.le_of_ble_eq_true rfl)) dX9_readsOne_226 ⟨Nat.le_of_ble_eq_true rfl, Nat.le_of_ble_eq_true rfl⟩) (fun H locs hW hS => ?_)
                      have hm := hm0
                      clear hm0 hc_38
                      refine lv_goto (tgt := 259) hx hb dX9_readsOne_229 (by decide) ?_
                      refine lv_aload_n hx hb dX9_readsOne_259 rfl (lv_at hl 1 rfl) ?_
                      refine lv_dup hx hb dX9_readsOne_260 rfl ?_
                      refine rg_10_20 hx hb hts hown hK hW h0 tw_7_89 dX9_readsOne_261 ?_
                      refine lv_iconst (v := 1) hx hb dX9_readsOne_264 (by decide) ?_
                      refine lv_iadd hx hb dX9_readsOne_265 ?_
                      refine rp_10_20 hx hb hts hown hK hW hS h0 tw_7_89 dX9_readsOne_266 (fun σ_39 H locs eσ hW hS => ?_)
                      replace hm := rc_lt_at hm eσ
                      clear eσ
                      exact rc_evret hx hb hr hlocks hW hS (Nat.le_of_ble_eq_true rfl) (Nat.le_of_ble_eq_true rfl) hm dX9_readsOne_269
                    · replace hm := rc_f hm c_37
                      by_cases c_40 : w_1 = (120 : Int32)
                      · replace hm := rc_t hm c_40
                        refine lv_tableIn (off := 186) (tgt := 223) hx hb dX9_readsOne_37 (by rw [c_40]; decide) (by rw [c_40]; decide) (by rw [c_40]; decide) (by decide) ?_
                        refine lv_aload_n hx hb dX9_readsOne_223 rfl (lv_at hl 1 rfl) ?_
                        refine lv_iconst (v := 1) hx hb dX9_readsOne_224 (by decide) ?_
                        refine lv_iconst (v := 1) hx hb dX9_readsOne_225 (by decide) ?_
                        obtain ⟨w_41, σ_41, hc_41, hm0⟩ := rc_bd_inv hm
                        clear hm
                        refine rc_cv hS (va_runV (As := [.int (1 : Int32), .int (1 : Int32)]) (rest := []) ⟨hx, hb, hml, hown, hts⟩ (k_X9_figure l hT a0 (1 : Int32) (1 : Int32) h0 H.size _ _ _ hc_41) (cwV 2 hts (rc_gV tw_8_165 tw_8_167 tw_p_52 tw_1_14 tw_8_168) rfl rfl rfl (by decide +kernel) ⟨Nat.le_of_ble_eq_true rfl, Nat.le_of_ble_eq_true rfl⟩) (rc_preV hT hW hK hE hS h0 (by decide) rfl (q := (RX9, TX9, 22)) rfl [.int (1 : Int32), .int (1 : Int32)]) rfl rfl hl.1 rfl (lv_room (Nat.le_of_ble_eq_true rfl)) dX9_readsOne_226 ⟨Nat.le_of_ble_eq_true rfl, Nat.le_of_ble_eq_true rfl⟩) (fun H locs hW hS => ?_)
                        have hm := hm0
                        clear hm0 hc_41
                        refine lv_goto (tgt := 259) hx hb dX9_readsOne_229 (by decide) ?_
                        refine lv_aload_n hx hb dX9_readsOne_259 rfl (lv_at hl 1 rfl) ?_
                        refine lv_dup hx hb dX9_readsOne_260 rfl ?_
                        refine rg_10_20 hx hb hts hown hK hW h0 tw_7_89 dX9_readsOne_261 ?_
                        refine lv_iconst (v := 1) hx hb dX9_readsOne_264 (by decide) ?_
                        refine lv_iadd hx hb dX9_readsOne_265 ?_
                        refine rp_10_20 hx hb hts hown hK hW hS h0 tw_7_89 dX9_readsOne_266 (fun σ_42 H locs eσ hW hS => ?_)
                        replace hm := rc_lt_at hm eσ
                        clear eσ
                        exact rc_evret hx hb hr hlocks hW hS (Nat.le_of_ble_eq_true rfl) (Nat.le_of_ble_eq_true rfl) hm dX9_readsOne_269
                      · replace hm := rc_f hm c_40
                        by_cases c_43 : w_1 = (121 : Int32)
                        · replace hm := rc_t hm c_43
                          refine lv_tableIn (off := 195) (tgt := 232) hx hb dX9_readsOne_37 (by rw [c_43]; decide) (by rw [c_43]; decide) (by rw [c_43]; decide) (by decide) ?_
                          refine lv_goto (tgt := 259) hx hb dX9_readsOne_232 (by decide) ?_
                          refine lv_aload_n hx hb dX9_readsOne_259 rfl (lv_at hl 1 rfl) ?_
                          refine lv_dup hx hb dX9_readsOne_260 rfl ?_
                          refine rg_10_20 hx hb hts hown hK hW h0 tw_7_89 dX9_readsOne_261 ?_
                          refine lv_iconst (v := 1) hx hb dX9_readsOne_264 (by decide) ?_
                          refine lv_iadd hx hb dX9_readsOne_265 ?_
                          refine rp_10_20 hx hb hts hown hK hW hS h0 tw_7_89 dX9_readsOne_266 (fun σ_44 H locs eσ hW hS => ?_)
                          replace hm := rc_lt_at hm eσ
                          clear eσ
                          exact rc_evret hx hb hr hlocks hW hS (Nat.le_of_ble_eq_true rfl) (Nat.le_of_ble_eq_true rfl) hm dX9_readsOne_269
                        · replace hm := rc_f hm c_43
                          refine rc_tblD (tgt := 235) hx hb dX9_readsOne_37 [98, 99, 103, 104, 108, 109, 112, 115, 116, 120, 121] (by decide +kernel) (by decide +kernel) (rc_nk c_5 (by decide) (rc_nk c_8 (by decide) (rc_nk c_11 (by decide) (rc_nk c_14 (by decide) (rc_nk c_19 (by decide) (rc_nk c_22 (by decide) (rc_nk c_25 (by decide) (rc_nk c_32 (by decide) (rc_nk c_37 (by decide) (rc_nk c_40 (by decide) (rc_nk c_43 (by decide) rc_nk0))))))))))) (by decide) ?_
                          refine lv_aload_n hx hb dX9_readsOne_235 rfl (lv_at hl 1 rfl) ?_
                          refine lv_iconst (v := 1) hx hb dX9_readsOne_236 (by decide) ?_
                          refine rp_10_21 hx hb hts hown hK hW hS h0 tw_7_90 rfl rfl dX9_readsOne_237 (fun σ_45 H locs eσ hW hS => ?_)
                          replace hm := rc_lt_at hm eσ
                          clear eσ
                          refine lv_aload_n hx hb dX9_readsOne_240 rfl (lv_at hl 1 rfl) ?_
                          refine lv_dup hx hb dX9_readsOne_241 rfl ?_
                          refine rg_10_18 hx hb hts hown hK hW h0 tw_7_87 dX9_readsOne_242 ?_
                          refine lv_iload_n hx hb dX9_readsOne_245 rfl (lv_at hl 0 rfl) ?_
                          refine lv_iconst (v := (-1)) hx hb dX9_readsOne_246 (by decide) ?_
                          refine lv_icmp_ne (tgt := 254) hx hb dX9_readsOne_247 (by decide) (fun c_50 => ?_) (fun c_50 => ?_)
                          · replace hm := rc_f hm c_50
                            refine lv_iconst (v := 1) hx hb dX9_readsOne_254 (by decide) ?_
                            refine lv_isub hx hb dX9_readsOne_255 ?_
                            refine rp_10_18 hx hb hts hown hK hW hS h0 tw_7_87 dX9_readsOne_256 (fun σ_46 H locs eσ hW hS => ?_)
                            replace hm := rc_lt_at hm eσ
                            clear eσ
                            refine lv_aload_n hx hb dX9_readsOne_259 rfl (lv_at hl 1 rfl) ?_
                            refine lv_dup hx hb dX9_readsOne_260 rfl ?_
                            refine rg_10_20 hx hb hts hown hK hW h0 tw_7_89 dX9_readsOne_261 ?_
                            refine lv_iconst (v := 1) hx hb dX9_readsOne_264 (by decide) ?_
                            refine lv_iadd hx hb dX9_readsOne_265 ?_
                            refine rp_10_20 hx hb hts hown hK hW hS h0 tw_7_89 dX9_readsOne_266 (fun σ_47 H locs eσ hW hS => ?_)
                            replace hm := rc_lt_at hm eσ
                            clear eσ
                            exact rc_evret hx hb hr hlocks hW hS (Nat.le_of_ble_eq_true rfl) (Nat.le_of_ble_eq_true rfl) hm dX9_readsOne_269
                          · replace hm := rc_t hm c_50
                            refine lv_iconst (v := 0) hx hb dX9_readsOne_250 (by decide) ?_
                            refine lv_goto (tgt := 255) hx hb dX9_readsOne_251 (by decide) ?_
                            refine lv_isub hx hb dX9_readsOne_255 ?_
                            refine rp_10_18 hx hb hts hown hK hW hS h0 tw_7_87 dX9_readsOne_256 (fun σ_48 H locs eσ hW hS => ?_)
                            replace hm := rc_lt_at hm eσ
                            clear eσ
                            refine lv_aload_n hx hb dX9_readsOne_259 rfl (lv_at hl 1 rfl) ?_
                            refine lv_dup hx hb dX9_readsOne_260 rfl ?_
                            refine rg_10_20 hx hb hts hown hK hW h0 tw_7_89 dX9_readsOne_261 ?_
                            refine lv_iconst (v := 1) hx hb dX9_readsOne_264 (by decide) ?_
                            refine lv_iadd hx hb dX9_readsOne_265 ?_
                            refine rp_10_20 hx hb hts hown hK hW hS h0 tw_7_89 dX9_readsOne_266 (fun σ_49 H locs eσ hW hS => ?_)
                            replace hm := rc_lt_at hm eσ
                            clear eσ
                            exact rc_evret hx hb hr hlocks hW hS (Nat.le_of_ble_eq_true rfl) (Nat.le_of_ble_eq_true rfl) hm dX9_readsOne_269
  · replace hm := rc_t hm c_98
    refine lv_iconst (v := 0) hx hb dX9_readsOne_27 (by decide) ?_
    refine lv_goto (tgt := 32) hx hb dX9_readsOne_28 (by decide) ?_
    refine lv_iadd hx hb dX9_readsOne_32 ?_
    refine rp_10_18 hx hb hts hown hK hW hS h0 tw_7_87 dX9_readsOne_33 (fun σ_51 H locs eσ hW hS => ?_)
    replace hm := rc_lt_at hm eσ
    clear eσ
    refine lv_iload_n hx hb dX9_readsOne_36 rfl (lv_at hl 0 rfl) ?_
    by_cases c_52 : w_1 = (98 : Int32)
    · replace hm := rc_t hm c_52
      refine lv_tableIn (off := 186) (tgt := 223) hx hb dX9_readsOne_37 (by rw [c_52]; decide) (by rw [c_52]; decide) (by rw [c_52]; decide) (by decide) ?_
      refine lv_aload_n hx hb dX9_readsOne_223 rfl (lv_at hl 1 rfl) ?_
      refine lv_iconst (v := 1) hx hb dX9_readsOne_224 (by decide) ?_
      refine lv_iconst (v := 1) hx hb dX9_readsOne_225 (by decide) ?_
      obtain ⟨w_53, σ_53, hc_53, hm0⟩ := rc_bd_inv hm
      clear hm
      refine rc_cv hS (va_runV (As := [.int (1 : Int32), .int (1 : Int32)]) (rest := []) ⟨hx, hb, hml, hown, hts⟩ (k_X9_figure l hT a0 (1 : Int32) (1 : Int32) h0 H.size _ _ _ hc_53) (cwV 2 hts (rc_gV tw_8_165 tw_8_167 tw_p_52 tw_1_14 tw_8_168) rfl rfl rfl (by decide +kernel) ⟨Nat.le_of_ble_eq_true rfl, Nat.le_of_ble_eq_true rfl⟩) (rc_preV hT hW hK hE hS h0 (by decide) rfl (q := (RX9, TX9, 22)) rfl [.int (1 : Int32), .int (1 : Int32)]) rfl rfl hl.1 rfl (lv_room (Nat.le_of_ble_eq_true rfl)) dX9_readsOne_226 ⟨Nat.le_of_ble_eq_true rfl, Nat.le_of_ble_eq_true rfl⟩) (fun H locs hW hS => ?_)
      have hm := hm0
      clear hm0 hc_53
      refine lv_goto (tgt := 259) hx hb dX9_readsOne_229 (by decide) ?_
      refine lv_aload_n hx hb dX9_readsOne_259 rfl (lv_at hl 1 rfl) ?_
      refine lv_dup hx hb dX9_readsOne_260 rfl ?_
      refine rg_10_20 hx hb hts hown hK hW h0 tw_7_89 dX9_readsOne_261 ?_
      refine lv_iconst (v := 1) hx hb dX9_readsOne_264 (by decide) ?_
      refine lv_iadd hx hb dX9_readsOne_265 ?_
      refine rp_10_20 hx hb hts hown hK hW hS h0 tw_7_89 dX9_readsOne_266 (fun σ_54 H locs eσ hW hS => ?_)
      replace hm := rc_lt_at hm eσ
      clear eσ
      exact rc_evret hx hb hr hlocks hW hS (Nat.le_of_ble_eq_true rfl) (Nat.le_of_ble_eq_true rfl) hm dX9_readsOne_269
    · replace hm := rc_f hm c_52
      by_cases c_55 : w_1 = (99 : Int32)
      · replace hm := rc_t hm c_55
        refine lv_tableIn (off := 186) (tgt := 223) hx hb dX9_readsOne_37 (by rw [c_55]; decide) (by rw [c_55]; decide) (by rw [c_55]; decide) (by decide) ?_
        refine lv_aload_n hx hb dX9_readsOne_223 rfl (lv_at hl 1 rfl) ?_
        refine lv_iconst (v := 1) hx hb dX9_readsOne_224 (by decide) ?_
        refine lv_iconst (v := 1) hx hb dX9_readsOne_225 (by decide) ?_
        obtain ⟨w_56, σ_56, hc_56, hm0⟩ := rc_bd_inv hm
        clear hm
        refine rc_cv hS (va_runV (As := [.int (1 : Int32), .int (1 : Int32)]) (rest := []) ⟨hx, hb, hml, hown, hts⟩ (k_X9_figure l hT a0 (1 : Int32) (1 : Int32) h0 H.size _ _ _ hc_56) (cwV 2 hts (rc_gV tw_8_165 tw_8_167 tw_p_52 tw_1_14 tw_8_168) rfl rfl rfl (by decide +kernel) ⟨Nat.le_of_ble_eq_true rfl, Nat.le_of_ble_eq_true rfl⟩) (rc_preV hT hW hK hE hS h0 (by decide) rfl (q := (RX9, TX9, 22)) rfl [.int (1 : Int32), .int (1 : Int32)]) rfl rfl hl.1 rfl (lv_room (Nat.le_of_ble_eq_true rfl)) dX9_readsOne_226 ⟨Nat.le_of_ble_eq_true rfl, Nat.le_of_ble_eq_true rfl⟩) (fun H locs hW hS => ?_)
        have hm := hm0
        clear hm0 hc_56
        refine lv_goto (tgt := 259) hx hb dX9_readsOne_229 (by decide) ?_
        refine lv_aload_n hx hb dX9_readsOne_259 rfl (lv_at hl 1 rfl) ?_
        refine lv_dup hx hb dX9_readsOne_260 rfl ?_
        refine rg_10_20 hx hb hts hown hK hW h0 tw_7_89 dX9_readsOne_261 ?_
        refine lv_iconst (v := 1) hx hb dX9_readsOne_264 (by decide) ?_
        refine lv_iadd hx hb dX9_readsOne_265 ?_
        refine rp_10_20 hx hb hts hown hK hW hS h0 tw_7_89 dX9_readsOne_266 (fun σ_57 H locs eσ hW hS => ?_)
        replace hm := rc_lt_at hm eσ
        clear eσ
        exact rc_evret hx hb hr hlocks hW hS (Nat.le_of_ble_eq_true rfl) (Nat.le_of_ble_eq_true rfl) hm dX9_readsOne_269
      · replace hm := rc_f hm c_55
        by_cases c_58 : w_1 = (103 : Int32)
        · replace hm := rc_t hm c_58
          refine lv_tableIn (off := 186) (tgt := 223) hx hb dX9_readsOne_37 (by rw [c_58]; decide) (by rw [c_58]; decide) (by rw [c_58]; decide) (by decide) ?_
          refine lv_aload_n hx hb dX9_readsOne_223 rfl (lv_at hl 1 rfl) ?_
          refine lv_iconst (v := 1) hx hb dX9_readsOne_224 (by decide) ?_
          refine lv_iconst (v := 1) hx hb dX9_readsOne_225 (by decide) ?_
          obtain ⟨w_59, σ_59, hc_59, hm0⟩ := rc_bd_inv hm
          clear hm
          refine rc_cv hS (va_runV (As := [.int (1 : Int32), .int (1 : Int32)]) (rest := []) ⟨hx, hb, hml, hown, hts⟩ (k_X9_figure l hT a0 (1 : Int32) (1 : Int32) h0 H.size _ _ _ hc_59) (cwV 2 hts (rc_gV tw_8_165 tw_8_167 tw_p_52 tw_1_14 tw_8_168) rfl rfl rfl (by decide +kernel) ⟨Nat.le_of_ble_eq_true rfl, Nat.le_of_ble_eq_true rfl⟩) (rc_preV hT hW hK hE hS h0 (by decide) rfl (q := (RX9, TX9, 22)) rfl [.int (1 : Int32), .int (1 : Int32)]) rfl rfl hl.1 rfl (lv_room (Nat.le_of_ble_eq_true rfl)) dX9_readsOne_226 ⟨Nat.le_of_ble_eq_true rfl, Nat.le_of_ble_eq_true rfl⟩) (fun H locs hW hS => ?_)
          have hm := hm0
          clear hm0 hc_59
          refine lv_goto (tgt := 259) hx hb dX9_readsOne_229 (by decide) ?_
          refine lv_aload_n hx hb dX9_readsOne_259 rfl (lv_at hl 1 rfl) ?_
          refine lv_dup hx hb dX9_readsOne_260 rfl ?_
          refine rg_10_20 hx hb hts hown hK hW h0 tw_7_89 dX9_readsOne_261 ?_
          refine lv_iconst (v := 1) hx hb dX9_readsOne_264 (by decide) ?_
          refine lv_iadd hx hb dX9_readsOne_265 ?_
          refine rp_10_20 hx hb hts hown hK hW hS h0 tw_7_89 dX9_readsOne_266 (fun σ_60 H locs eσ hW hS => ?_)
          replace hm := rc_lt_at hm eσ
          clear eσ
          exact rc_evret hx hb hr hlocks hW hS (Nat.le_of_ble_eq_true rfl) (Nat.le_of_ble_eq_true rfl) hm dX9_readsOne_269
        · replace hm := rc_f hm c_58
          by_cases c_61 : w_1 = (104 : Int32)
          · replace hm := rc_t hm c_61
            refine lv_tableIn (off := 165) (tgt := 202) hx hb dX9_readsOne_37 (by rw [c_61]; decide) (by rw [c_61]; decide) (by rw [c_61]; decide) (by decide) ?_
            refine lv_aload_n hx hb dX9_readsOne_202 rfl (lv_at hl 1 rfl) ?_
            refine lv_iconst (v := 1) hx hb dX9_readsOne_203 (by decide) ?_
            refine lv_iconst (v := 1) hx hb dX9_readsOne_204 (by decide) ?_
            obtain ⟨w_62, σ_62, hc_62, hm0⟩ := rc_bd_inv hm
            clear hm
            refine rc_cv hS (va_runV (As := [.int (1 : Int32), .int (1 : Int32)]) (rest := []) ⟨hx, hb, hml, hown, hts⟩ (k_X9_figure l hT a0 (1 : Int32) (1 : Int32) h0 H.size _ _ _ hc_62) (cwV 2 hts (rc_gV tw_8_165 tw_8_167 tw_p_52 tw_1_14 tw_8_168) rfl rfl rfl (by decide +kernel) ⟨Nat.le_of_ble_eq_true rfl, Nat.le_of_ble_eq_true rfl⟩) (rc_preV hT hW hK hE hS h0 (by decide) rfl (q := (RX9, TX9, 22)) rfl [.int (1 : Int32), .int (1 : Int32)]) rfl rfl hl.1 rfl (lv_room (Nat.le_of_ble_eq_true rfl)) dX9_readsOne_205 ⟨Nat.le_of_ble_eq_true rfl, Nat.le_of_ble_eq_true rfl⟩) (fun H locs hW hS => ?_)
            have hm := hm0
            clear hm0 hc_62
            refine lv_aload_n hx hb dX9_readsOne_208 rfl (lv_at hl 1 rfl) ?_
            refine lv_bipush (v := 61) hx hb dX9_readsOne_209 (by decide) ?_
            obtain ⟨w_63, σ_63, hc_63, hm0⟩ := rc_bd_inv hm
            clear hm
            refine rc_cv hS (va_runV (As := [.int (61 : Int32)]) (rest := []) ⟨hx, hb, hml, hown, hts⟩ (k_X9_sign l hT a0 (61 : Int32) h0 H.size _ _ _ hc_63) (cwV 1 hts (rc_gV tw_8_169 tw_8_171 tw_p_53 tw_1_14 tw_8_172) rfl rfl rfl (by decide +kernel) ⟨Nat.le_of_ble_eq_true rfl, Nat.le_of_ble_eq_true rfl⟩) (rc_preV hT hW hK hE hS h0 (by decide) rfl (q := (RX9, TX9, 22)) rfl [.int (61 : Int32)]) rfl rfl hl.1 rfl (lv_room (Nat.le_of_ble_eq_true rfl)) dX9_readsOne_211 ⟨Nat.le_of_ble_eq_true rfl, Nat.le_of_ble_eq_true rfl⟩) (fun H locs hW hS => ?_)
            have hm := hm0
            clear hm0 hc_63
            refine lv_aload_n hx hb dX9_readsOne_214 rfl (lv_at hl 1 rfl) ?_
            refine lv_iconst (v := 2) hx hb dX9_readsOne_215 (by decide) ?_
            refine lv_iconst (v := 2) hx hb dX9_readsOne_216 (by decide) ?_
            obtain ⟨w_64, σ_64, hc_64, hm0⟩ := rc_bd_inv hm
            clear hm
            refine rc_cv hS (va_runV (As := [.int (2 : Int32), .int (2 : Int32)]) (rest := []) ⟨hx, hb, hml, hown, hts⟩ (k_X9_figure l hT a0 (2 : Int32) (2 : Int32) h0 H.size _ _ _ hc_64) (cwV 2 hts (rc_gV tw_8_165 tw_8_167 tw_p_52 tw_1_14 tw_8_168) rfl rfl rfl (by decide +kernel) ⟨Nat.le_of_ble_eq_true rfl, Nat.le_of_ble_eq_true rfl⟩) (rc_preV hT hW hK hE hS h0 (by decide) rfl (q := (RX9, TX9, 22)) rfl [.int (2 : Int32), .int (2 : Int32)]) rfl rfl hl.1 rfl (lv_room (Nat.le_of_ble_eq_true rfl)) dX9_readsOne_217 ⟨Nat.le_of_ble_eq_true rfl, Nat.le_of_ble_eq_true rfl⟩) (fun H locs hW hS => ?_)
            have hm := hm0
            clear hm0 hc_64
            refine lv_goto (tgt := 259) hx hb dX9_readsOne_220 (by decide) ?_
            refine lv_aload_n hx hb dX9_readsOne_259 rfl (lv_at hl 1 rfl) ?_
            refine lv_dup hx hb dX9_readsOne_260 rfl ?_
            refine rg_10_20 hx hb hts hown hK hW h0 tw_7_89 dX9_readsOne_261 ?_
            refine lv_iconst (v := 1) hx hb dX9_readsOne_264 (by decide) ?_
            refine lv_iadd hx hb dX9_readsOne_265 ?_
            refine rp_10_20 hx hb hts hown hK hW hS h0 tw_7_89 dX9_readsOne_266 (fun σ_65 H locs eσ hW hS => ?_)
            replace hm := rc_lt_at hm eσ
            clear eσ
            exact rc_evret hx hb hr hlocks hW hS (Nat.le_of_ble_eq_true rfl) (Nat.le_of_ble_eq_true rfl) hm dX9_readsOne_269
          · replace hm := rc_f hm c_61
            by_cases c_66 : w_1 = (108 : Int32)
            · replace hm := rc_t hm c_66
              refine lv_tableIn (off := 186) (tgt := 223) hx hb dX9_readsOne_37 (by rw [c_66]; decide) (by rw [c_66]; decide) (by rw [c_66]; decide) (by decide) ?_
              refine lv_aload_n hx hb dX9_readsOne_223 rfl (lv_at hl 1 rfl) ?_
              refine lv_iconst (v := 1) hx hb dX9_readsOne_224 (by decide) ?_
              refine lv_iconst (v := 1) hx hb dX9_readsOne_225 (by decide) ?_
              obtain ⟨w_67, σ_67, hc_67, hm0⟩ := rc_bd_inv hm
              clear hm
              refine rc_cv hS (va_runV (As := [.int (1 : Int32), .int (1 : Int32)]) (rest := []) ⟨hx, hb, hml, hown, hts⟩ (k_X9_figure l hT a0 (1 : Int32) (1 : Int32) h0 H.size _ _ _ hc_67) (cwV 2 hts (rc_gV tw_8_165 tw_8_167 tw_p_52 tw_1_14 tw_8_168) rfl rfl rfl (by decide +kernel) ⟨Nat.le_of_ble_eq_true rfl, Nat.le_of_ble_eq_true rfl⟩) (rc_preV hT hW hK hE hS h0 (by decide) rfl (q := (RX9, TX9, 22)) rfl [.int (1 : Int32), .int (1 : Int32)]) rfl rfl hl.1 rfl (lv_room (Nat.le_of_ble_eq_true rfl)) dX9_readsOne_226 ⟨Nat.le_of_ble_eq_true rfl, Nat.le_of_ble_eq_true rfl⟩) (fun H locs hW hS => ?_)
              have hm := hm0
              clear hm0 hc_67
              refine lv_goto (tgt := 259) hx hb dX9_readsOne_229 (by decide) ?_
              refine lv_aload_n hx hb dX9_readsOne_259 rfl (lv_at hl 1 rfl) ?_
              refine lv_dup hx hb dX9_readsOne_260 rfl ?_
              refine rg_10_20 hx hb hts hown hK hW h0 tw_7_89 dX9_readsOne_261 ?_
              refine lv_iconst (v := 1) hx hb dX9_readsOne_264 (by decide) ?_
              refine lv_iadd hx hb dX9_readsOne_265 ?_
              refine rp_10_20 hx hb hts hown hK hW hS h0 tw_7_89 dX9_readsOne_266 (fun σ_68 H locs eσ hW hS => ?_)
              replace hm := rc_lt_at hm eσ
              clear eσ
              exact rc_evret hx hb hr hlocks hW hS (Nat.le_of_ble_eq_true rfl) (Nat.le_of_ble_eq_true rfl) hm dX9_readsOne_269
            · replace hm := rc_f hm c_66
              by_cases c_69 : w_1 = (109 : Int32)
              · replace hm := rc_t hm c_69
                refine lv_tableIn (off := 186) (tgt := 223) hx hb dX9_readsOne_37 (by rw [c_69]; decide) (by rw [c_69]; decide) (by rw [c_69]; decide) (by decide) ?_
                refine lv_aload_n hx hb dX9_readsOne_223 rfl (lv_at hl 1 rfl) ?_
                refine lv_iconst (v := 1) hx hb dX9_readsOne_224 (by decide) ?_
                refine lv_iconst (v := 1) hx hb dX9_readsOne_225 (by decide) ?_
                obtain ⟨w_70, σ_70, hc_70, hm0⟩ := rc_bd_inv hm
                clear hm
                refine rc_cv hS (va_runV (As := [.int (1 : Int32), .int (1 : Int32)]) (rest := []) ⟨hx, hb, hml, hown, hts⟩ (k_X9_figure l hT a0 (1 : Int32) (1 : Int32) h0 H.size _ _ _ hc_70) (cwV 2 hts (rc_gV tw_8_165 tw_8_167 tw_p_52 tw_1_14 tw_8_168) rfl rfl rfl (by decide +kernel) ⟨Nat.le_of_ble_eq_true rfl, Nat.le_of_ble_eq_true rfl⟩) (rc_preV hT hW hK hE hS h0 (by decide) rfl (q := (RX9, TX9, 22)) rfl [.int (1 : Int32), .int (1 : Int32)]) rfl rfl hl.1 rfl (lv_room (Nat.le_of_ble_eq_true rfl)) dX9_readsOne_226 ⟨Nat.le_of_ble_eq_true rfl, Nat.le_of_ble_eq_true rfl⟩) (fun H locs hW hS => ?_)
                have hm := hm0
                clear hm0 hc_70
                refine lv_goto (tgt := 259) hx hb dX9_readsOne_229 (by decide) ?_
                refine lv_aload_n hx hb dX9_readsOne_259 rfl (lv_at hl 1 rfl) ?_
                refine lv_dup hx hb dX9_readsOne_260 rfl ?_
                refine rg_10_20 hx hb hts hown hK hW h0 tw_7_89 dX9_readsOne_261 ?_
                refine lv_iconst (v := 1) hx hb dX9_readsOne_264 (by decide) ?_
                refine lv_iadd hx hb dX9_readsOne_265 ?_
                refine rp_10_20 hx hb hts hown hK hW hS h0 tw_7_89 dX9_readsOne_266 (fun σ_71 H locs eσ hW hS => ?_)
                replace hm := rc_lt_at hm eσ
                clear eσ
                exact rc_evret hx hb hr hlocks hW hS (Nat.le_of_ble_eq_true rfl) (Nat.le_of_ble_eq_true rfl) hm dX9_readsOne_269
              · replace hm := rc_f hm c_69
                by_cases c_72 : w_1 = (112 : Int32)
                · replace hm := rc_t hm c_72
                  refine lv_tableIn (off := 132) (tgt := 169) hx hb dX9_readsOne_37 (by rw [c_72]; decide) (by rw [c_72]; decide) (by rw [c_72]; decide) (by decide) ?_
                  refine lv_aload_n hx hb dX9_readsOne_169 rfl (lv_at hl 1 rfl) ?_
                  refine lv_iconst (v := 1) hx hb dX9_readsOne_170 (by decide) ?_
                  refine lv_iconst (v := 1) hx hb dX9_readsOne_171 (by decide) ?_
                  obtain ⟨w_73, σ_73, hc_73, hm0⟩ := rc_bd_inv hm
                  clear hm
                  refine rc_cv hS (va_runV (As := [.int (1 : Int32), .int (1 : Int32)]) (rest := []) ⟨hx, hb, hml, hown, hts⟩ (k_X9_figure l hT a0 (1 : Int32) (1 : Int32) h0 H.size _ _ _ hc_73) (cwV 2 hts (rc_gV tw_8_165 tw_8_167 tw_p_52 tw_1_14 tw_8_168) rfl rfl rfl (by decide +kernel) ⟨Nat.le_of_ble_eq_true rfl, Nat.le_of_ble_eq_true rfl⟩) (rc_preV hT hW hK hE hS h0 (by decide) rfl (q := (RX9, TX9, 22)) rfl [.int (1 : Int32), .int (1 : Int32)]) rfl rfl hl.1 rfl (lv_room (Nat.le_of_ble_eq_true rfl)) dX9_readsOne_172 ⟨Nat.le_of_ble_eq_true rfl, Nat.le_of_ble_eq_true rfl⟩) (fun H locs hW hS => ?_)
                  have hm := hm0
                  clear hm0 hc_73
                  refine lv_aload_n hx hb dX9_readsOne_175 rfl (lv_at hl 1 rfl) ?_
                  refine lv_bipush (v := 62) hx hb dX9_readsOne_176 (by decide) ?_
                  obtain ⟨w_74, σ_74, hc_74, hm0⟩ := rc_bd_inv hm
                  clear hm
                  refine rc_cv hS (va_runV (As := [.int (62 : Int32)]) (rest := []) ⟨hx, hb, hml, hown, hts⟩ (k_X9_sign l hT a0 (62 : Int32) h0 H.size _ _ _ hc_74) (cwV 1 hts (rc_gV tw_8_169 tw_8_171 tw_p_53 tw_1_14 tw_8_172) rfl rfl rfl (by decide +kernel) ⟨Nat.le_of_ble_eq_true rfl, Nat.le_of_ble_eq_true rfl⟩) (rc_preV hT hW hK hE hS h0 (by decide) rfl (q := (RX9, TX9, 22)) rfl [.int (62 : Int32)]) rfl rfl hl.1 rfl (lv_room (Nat.le_of_ble_eq_true rfl)) dX9_readsOne_178 ⟨Nat.le_of_ble_eq_true rfl, Nat.le_of_ble_eq_true rfl⟩) (fun H locs hW hS => ?_)
                  have hm := hm0
                  clear hm0 hc_74
                  refine lv_aload_n hx hb dX9_readsOne_181 rfl (lv_at hl 1 rfl) ?_
                  refine lv_iconst (v := 2) hx hb dX9_readsOne_182 (by decide) ?_
                  refine lv_iconst (v := 1) hx hb dX9_readsOne_183 (by decide) ?_
                  obtain ⟨w_75, σ_75, hc_75, hm0⟩ := rc_bd_inv hm
                  clear hm
                  refine rc_cv hS (va_runV (As := [.int (2 : Int32), .int (1 : Int32)]) (rest := []) ⟨hx, hb, hml, hown, hts⟩ (k_X9_figure l hT a0 (2 : Int32) (1 : Int32) h0 H.size _ _ _ hc_75) (cwV 2 hts (rc_gV tw_8_165 tw_8_167 tw_p_52 tw_1_14 tw_8_168) rfl rfl rfl (by decide +kernel) ⟨Nat.le_of_ble_eq_true rfl, Nat.le_of_ble_eq_true rfl⟩) (rc_preV hT hW hK hE hS h0 (by decide) rfl (q := (RX9, TX9, 22)) rfl [.int (2 : Int32), .int (1 : Int32)]) rfl rfl hl.1 rfl (lv_room (Nat.le_of_ble_eq_true rfl)) dX9_readsOne_184 ⟨Nat.le_of_ble_eq_true rfl, Nat.le_of_ble_eq_true rfl⟩) (fun H locs hW hS => ?_)
                  have hm := hm0
                  clear hm0 hc_75
                  refine lv_aload_n hx hb dX9_readsOne_187 rfl (lv_at hl 1 rfl) ?_
                  refine lv_bipush (v := 61) hx hb dX9_readsOne_188 (by decide) ?_
                  obtain ⟨w_76, σ_76, hc_76, hm0⟩ := rc_bd_inv hm
                  clear hm
                  refine rc_cv hS (va_runV (As := [.int (61 : Int32)]) (rest := []) ⟨hx, hb, hml, hown, hts⟩ (k_X9_sign l hT a0 (61 : Int32) h0 H.size _ _ _ hc_76) (cwV 1 hts (rc_gV tw_8_169 tw_8_171 tw_p_53 tw_1_14 tw_8_172) rfl rfl rfl (by decide +kernel) ⟨Nat.le_of_ble_eq_true rfl, Nat.le_of_ble_eq_true rfl⟩) (rc_preV hT hW hK hE hS h0 (by decide) rfl (q := (RX9, TX9, 22)) rfl [.int (61 : Int32)]) rfl rfl hl.1 rfl (lv_room (Nat.le_of_ble_eq_true rfl)) dX9_readsOne_190 ⟨Nat.le_of_ble_eq_true rfl, Nat.le_of_ble_eq_true rfl⟩) (fun H locs hW hS => ?_)
                  have hm := hm0
                  clear hm0 hc_76
                  refine lv_aload_n hx hb dX9_readsOne_193 rfl (lv_at hl 1 rfl) ?_
                  refine lv_iconst (v := 3) hx hb dX9_readsOne_194 (by decide) ?_
                  refine lv_iconst (v := 2) hx hb dX9_readsOne_195 (by decide) ?_
                  obtain ⟨w_77, σ_77, hc_77, hm0⟩ := rc_bd_inv hm
                  clear hm
                  refine rc_cv hS (va_runV (As := [.int (3 : Int32), .int (2 : Int32)]) (rest := []) ⟨hx, hb, hml, hown, hts⟩ (k_X9_figure l hT a0 (3 : Int32) (2 : Int32) h0 H.size _ _ _ hc_77) (cwV 2 hts (rc_gV tw_8_165 tw_8_167 tw_p_52 tw_1_14 tw_8_168) rfl rfl rfl (by decide +kernel) ⟨Nat.le_of_ble_eq_true rfl, Nat.le_of_ble_eq_true rfl⟩) (rc_preV hT hW hK hE hS h0 (by decide) rfl (q := (RX9, TX9, 22)) rfl [.int (3 : Int32), .int (2 : Int32)]) rfl rfl hl.1 rfl (lv_room (Nat.le_of_ble_eq_true rfl)) dX9_readsOne_196 ⟨Nat.le_of_ble_eq_true rfl, Nat.le_of_ble_eq_true rfl⟩) (fun H locs hW hS => ?_)
                  have hm := hm0
                  clear hm0 hc_77
                  refine lv_goto (tgt := 259) hx hb dX9_readsOne_199 (by decide) ?_
                  refine lv_aload_n hx hb dX9_readsOne_259 rfl (lv_at hl 1 rfl) ?_
                  refine lv_dup hx hb dX9_readsOne_260 rfl ?_
                  refine rg_10_20 hx hb hts hown hK hW h0 tw_7_89 dX9_readsOne_261 ?_
                  refine lv_iconst (v := 1) hx hb dX9_readsOne_264 (by decide) ?_
                  refine lv_iadd hx hb dX9_readsOne_265 ?_
                  refine rp_10_20 hx hb hts hown hK hW hS h0 tw_7_89 dX9_readsOne_266 (fun σ_78 H locs eσ hW hS => ?_)
                  replace hm := rc_lt_at hm eσ
                  clear eσ
                  exact rc_evret hx hb hr hlocks hW hS (Nat.le_of_ble_eq_true rfl) (Nat.le_of_ble_eq_true rfl) hm dX9_readsOne_269
                · replace hm := rc_f hm c_72
                  by_cases c_79 : w_1 = (115 : Int32)
                  · replace hm := rc_t hm c_79
                    refine lv_tableIn (off := 111) (tgt := 148) hx hb dX9_readsOne_37 (by rw [c_79]; decide) (by rw [c_79]; decide) (by rw [c_79]; decide) (by decide) ?_
                    refine lv_aload_n hx hb dX9_readsOne_148 rfl (lv_at hl 1 rfl) ?_
                    refine lv_iconst (v := 1) hx hb dX9_readsOne_149 (by decide) ?_
                    refine lv_iconst (v := 1) hx hb dX9_readsOne_150 (by decide) ?_
                    obtain ⟨w_80, σ_80, hc_80, hm0⟩ := rc_bd_inv hm
                    clear hm
                    refine rc_cv hS (va_runV (As := [.int (1 : Int32), .int (1 : Int32)]) (rest := []) ⟨hx, hb, hml, hown, hts⟩ (k_X9_figure l hT a0 (1 : Int32) (1 : Int32) h0 H.size _ _ _ hc_80) (cwV 2 hts (rc_gV tw_8_165 tw_8_167 tw_p_52 tw_1_14 tw_8_168) rfl rfl rfl (by decide +kernel) ⟨Nat.le_of_ble_eq_true rfl, Nat.le_of_ble_eq_true rfl⟩) (rc_preV hT hW hK hE hS h0 (by decide) rfl (q := (RX9, TX9, 22)) rfl [.int (1 : Int32), .int (1 : Int32)]) rfl rfl hl.1 rfl (lv_room (Nat.le_of_ble_eq_true rfl)) dX9_readsOne_151 ⟨Nat.le_of_ble_eq_true rfl, Nat.le_of_ble_eq_true rfl⟩) (fun H locs hW hS => ?_)
                    have hm := hm0
                    clear hm0 hc_80
                    refine lv_aload_n hx hb dX9_readsOne_154 rfl (lv_at hl 1 rfl) ?_
                    refine lv_bipush (v := 42) hx hb dX9_readsOne_155 (by decide) ?_
                    obtain ⟨w_81, σ_81, hc_81, hm0⟩ := rc_bd_inv hm
                    clear hm
                    refine rc_cv hS (va_runV (As := [.int (42 : Int32)]) (rest := []) ⟨hx, hb, hml, hown, hts⟩ (k_X9_sign l hT a0 (42 : Int32) h0 H.size _ _ _ hc_81) (cwV 1 hts (rc_gV tw_8_169 tw_8_171 tw_p_53 tw_1_14 tw_8_172) rfl rfl rfl (by decide +kernel) ⟨Nat.le_of_ble_eq_true rfl, Nat.le_of_ble_eq_true rfl⟩) (rc_preV hT hW hK hE hS h0 (by decide) rfl (q := (RX9, TX9, 22)) rfl [.int (42 : Int32)]) rfl rfl hl.1 rfl (lv_room (Nat.le_of_ble_eq_true rfl)) dX9_readsOne_157 ⟨Nat.le_of_ble_eq_true rfl, Nat.le_of_ble_eq_true rfl⟩) (fun H locs hW hS => ?_)
                    have hm := hm0
                    clear hm0 hc_81
                    refine lv_aload_n hx hb dX9_readsOne_160 rfl (lv_at hl 1 rfl) ?_
                    refine lv_iconst (v := 2) hx hb dX9_readsOne_161 (by decide) ?_
                    refine lv_iconst (v := 1) hx hb dX9_readsOne_162 (by decide) ?_
                    obtain ⟨w_82, σ_82, hc_82, hm0⟩ := rc_bd_inv hm
                    clear hm
                    refine rc_cv hS (va_runV (As := [.int (2 : Int32), .int (1 : Int32)]) (rest := []) ⟨hx, hb, hml, hown, hts⟩ (k_X9_figure l hT a0 (2 : Int32) (1 : Int32) h0 H.size _ _ _ hc_82) (cwV 2 hts (rc_gV tw_8_165 tw_8_167 tw_p_52 tw_1_14 tw_8_168) rfl rfl rfl (by decide +kernel) ⟨Nat.le_of_ble_eq_true rfl, Nat.le_of_ble_eq_true rfl⟩) (rc_preV hT hW hK hE hS h0 (by decide) rfl (q := (RX9, TX9, 22)) rfl [.int (2 : Int32), .int (1 : Int32)]) rfl rfl hl.1 rfl (lv_room (Nat.le_of_ble_eq_true rfl)) dX9_readsOne_163 ⟨Nat.le_of_ble_eq_true rfl, Nat.le_of_ble_eq_true rfl⟩) (fun H locs hW hS => ?_)
                    have hm := hm0
                    clear hm0 hc_82
                    refine lv_goto (tgt := 259) hx hb dX9_readsOne_166 (by decide) ?_
                    refine lv_aload_n hx hb dX9_readsOne_259 rfl (lv_at hl 1 rfl) ?_
                    refine lv_dup hx hb dX9_readsOne_260 rfl ?_
                    refine rg_10_20 hx hb hts hown hK hW h0 tw_7_89 dX9_readsOne_261 ?_
                    refine lv_iconst (v := 1) hx hb dX9_readsOne_264 (by decide) ?_
                    refine lv_iadd hx hb dX9_readsOne_265 ?_
                    refine rp_10_20 hx hb hts hown hK hW hS h0 tw_7_89 dX9_readsOne_266 (fun σ_83 H locs eσ hW hS => ?_)
                    replace hm := rc_lt_at hm eσ
                    clear eσ
                    exact rc_evret hx hb hr hlocks hW hS (Nat.le_of_ble_eq_true rfl) (Nat.le_of_ble_eq_true rfl) hm dX9_readsOne_269
                  · replace hm := rc_f hm c_79
                    by_cases c_84 : w_1 = (116 : Int32)
                    · replace hm := rc_t hm c_84
                      refine lv_tableIn (off := 186) (tgt := 223) hx hb dX9_readsOne_37 (by rw [c_84]; decide) (by rw [c_84]; decide) (by rw [c_84]; decide) (by decide) ?_
                      refine lv_aload_n hx hb dX9_readsOne_223 rfl (lv_at hl 1 rfl) ?_
                      refine lv_iconst (v := 1) hx hb dX9_readsOne_224 (by decide) ?_
                      refine lv_iconst (v := 1) hx hb dX9_readsOne_225 (by decide) ?_
                      obtain ⟨w_85, σ_85, hc_85, hm0⟩ := rc_bd_inv hm
                      clear hm
                      refine rc_cv hS (va_runV (As := [.int (1 : Int32), .int (1 : Int32)]) (rest := []) ⟨hx, hb, hml, hown, hts⟩ (k_X9_figure l hT a0 (1 : Int32) (1 : Int32) h0 H.size _ _ _ hc_85) (cwV 2 hts (rc_gV tw_8_165 tw_8_167 tw_p_52 tw_1_14 tw_8_168) rfl rfl rfl (by decide +kernel) ⟨Nat.le_of_ble_eq_true rfl, Nat.le_of_ble_eq_true rfl⟩) (rc_preV hT hW hK hE hS h0 (by decide) rfl (q := (RX9, TX9, 22)) rfl [.int (1 : Int32), .int (1 : Int32)]) rfl rfl hl.1 rfl (lv_room (Nat.le_of_ble_eq_true rfl)) dX9_readsOne_226 ⟨Nat.le_of_ble_eq_true rfl, Nat.le_of_ble_eq_true rfl⟩) (fun H locs hW hS => ?_)
                      have hm := hm0
                      clear hm0 hc_85
                      refine lv_goto (tgt := 259) hx hb dX9_readsOne_229 (by decide) ?_
                      refine lv_aload_n hx hb dX9_readsOne_259 rfl (lv_at hl 1 rfl) ?_
                      refine lv_dup hx hb dX9_readsOne_260 rfl ?_
                      refine rg_10_20 hx hb hts hown hK hW h0 tw_7_89 dX9_readsOne_261 ?_
                      refine lv_iconst (v := 1) hx hb dX9_readsOne_264 (by decide) ?_
                      refine lv_iadd hx hb dX9_readsOne_265 ?_
                      refine rp_10_20 hx hb hts hown hK hW hS h0 tw_7_89 dX9_readsOne_266 (fun σ_86 H locs eσ hW hS => ?_)
                      replace hm := rc_lt_at hm eσ
                      clear eσ
                      exact rc_evret hx hb hr hlocks hW hS (Nat.le_of_ble_eq_true rfl) (Nat.le_of_ble_eq_true rfl) hm dX9_readsOne_269
                    · replace hm := rc_f hm c_84
                      by_cases c_87 : w_1 = (120 : Int32)
                      · replace hm := rc_t hm c_87
                        refine lv_tableIn (off := 186) (tgt := 223) hx hb dX9_readsOne_37 (by rw [c_87]; decide) (by rw [c_87]; decide) (by rw [c_87]; decide) (by decide) ?_
                        refine lv_aload_n hx hb dX9_readsOne_223 rfl (lv_at hl 1 rfl) ?_
                        refine lv_iconst (v := 1) hx hb dX9_readsOne_224 (by decide) ?_
                        refine lv_iconst (v := 1) hx hb dX9_readsOne_225 (by decide) ?_
                        obtain ⟨w_88, σ_88, hc_88, hm0⟩ := rc_bd_inv hm
                        clear hm
                        refine rc_cv hS (va_runV (As := [.int (1 : Int32), .int (1 : Int32)]) (rest := []) ⟨hx, hb, hml, hown, hts⟩ (k_X9_figure l hT a0 (1 : Int32) (1 : Int32) h0 H.size _ _ _ hc_88) (cwV 2 hts (rc_gV tw_8_165 tw_8_167 tw_p_52 tw_1_14 tw_8_168) rfl rfl rfl (by decide +kernel) ⟨Nat.le_of_ble_eq_true rfl, Nat.le_of_ble_eq_true rfl⟩) (rc_preV hT hW hK hE hS h0 (by decide) rfl (q := (RX9, TX9, 22)) rfl [.int (1 : Int32), .int (1 : Int32)]) rfl rfl hl.1 rfl (lv_room (Nat.le_of_ble_eq_true rfl)) dX9_readsOne_226 ⟨Nat.le_of_ble_eq_true rfl, Nat.le_of_ble_eq_true rfl⟩) (fun H locs hW hS => ?_)
                        have hm := hm0
                        clear hm0 hc_88
                        refine lv_goto (tgt := 259) hx hb dX9_readsOne_229 (by decide) ?_
                        refine lv_aload_n hx hb dX9_readsOne_259 rfl (lv_at hl 1 rfl) ?_
                        refine lv_dup hx hb dX9_readsOne_260 rfl ?_
                        refine rg_10_20 hx hb hts hown hK hW h0 tw_7_89 dX9_readsOne_261 ?_
                        refine lv_iconst (v := 1) hx hb dX9_readsOne_264 (by decide) ?_
                        refine lv_iadd hx hb dX9_readsOne_265 ?_
                        refine rp_10_20 hx hb hts hown hK hW hS h0 tw_7_89 dX9_readsOne_266 (fun σ_89 H locs eσ hW hS => ?_)
                        replace hm := rc_lt_at hm eσ
                        clear eσ
                        exact rc_evret hx hb hr hlocks hW hS (Nat.le_of_ble_eq_true rfl) (Nat.le_of_ble_eq_true rfl) hm dX9_readsOne_269
                      · replace hm := rc_f hm c_87
                        by_cases c_90 : w_1 = (121 : Int32)
                        · replace hm := rc_t hm c_90
                          refine lv_tableIn (off := 195) (tgt := 232) hx hb dX9_readsOne_37 (by rw [c_90]; decide) (by rw [c_90]; decide) (by rw [c_90]; decide) (by decide) ?_
                          refine lv_goto (tgt := 259) hx hb dX9_readsOne_232 (by decide) ?_
                          refine lv_aload_n hx hb dX9_readsOne_259 rfl (lv_at hl 1 rfl) ?_
                          refine lv_dup hx hb dX9_readsOne_260 rfl ?_
                          refine rg_10_20 hx hb hts hown hK hW h0 tw_7_89 dX9_readsOne_261 ?_
                          refine lv_iconst (v := 1) hx hb dX9_readsOne_264 (by decide) ?_
                          refine lv_iadd hx hb dX9_readsOne_265 ?_
                          refine rp_10_20 hx hb hts hown hK hW hS h0 tw_7_89 dX9_readsOne_266 (fun σ_91 H locs eσ hW hS => ?_)
                          replace hm := rc_lt_at hm eσ
                          clear eσ
                          exact rc_evret hx hb hr hlocks hW hS (Nat.le_of_ble_eq_true rfl) (Nat.le_of_ble_eq_true rfl) hm dX9_readsOne_269
                        · replace hm := rc_f hm c_90
                          refine rc_tblD (tgt := 235) hx hb dX9_readsOne_37 [98, 99, 103, 104, 108, 109, 112, 115, 116, 120, 121] (by decide +kernel) (by decide +kernel) (rc_nk c_52 (by decide) (rc_nk c_55 (by decide) (rc_nk c_58 (by decide) (rc_nk c_61 (by decide) (rc_nk c_66 (by decide) (rc_nk c_69 (by decide) (rc_nk c_72 (by decide) (rc_nk c_79 (by decide) (rc_nk c_84 (by decide) (rc_nk c_87 (by decide) (rc_nk c_90 (by decide) rc_nk0))))))))))) (by decide) ?_
                          refine lv_aload_n hx hb dX9_readsOne_235 rfl (lv_at hl 1 rfl) ?_
                          refine lv_iconst (v := 1) hx hb dX9_readsOne_236 (by decide) ?_
                          refine rp_10_21 hx hb hts hown hK hW hS h0 tw_7_90 rfl rfl dX9_readsOne_237 (fun σ_92 H locs eσ hW hS => ?_)
                          replace hm := rc_lt_at hm eσ
                          clear eσ
                          refine lv_aload_n hx hb dX9_readsOne_240 rfl (lv_at hl 1 rfl) ?_
                          refine lv_dup hx hb dX9_readsOne_241 rfl ?_
                          refine rg_10_18 hx hb hts hown hK hW h0 tw_7_87 dX9_readsOne_242 ?_
                          refine lv_iload_n hx hb dX9_readsOne_245 rfl (lv_at hl 0 rfl) ?_
                          refine lv_iconst (v := (-1)) hx hb dX9_readsOne_246 (by decide) ?_
                          refine lv_icmp_ne (tgt := 254) hx hb dX9_readsOne_247 (by decide) (fun c_97 => ?_) (fun c_97 => ?_)
                          · replace hm := rc_f hm c_97
                            refine lv_iconst (v := 1) hx hb dX9_readsOne_254 (by decide) ?_
                            refine lv_isub hx hb dX9_readsOne_255 ?_
                            refine rp_10_18 hx hb hts hown hK hW hS h0 tw_7_87 dX9_readsOne_256 (fun σ_93 H locs eσ hW hS => ?_)
                            replace hm := rc_lt_at hm eσ
                            clear eσ
                            refine lv_aload_n hx hb dX9_readsOne_259 rfl (lv_at hl 1 rfl) ?_
                            refine lv_dup hx hb dX9_readsOne_260 rfl ?_
                            refine rg_10_20 hx hb hts hown hK hW h0 tw_7_89 dX9_readsOne_261 ?_
                            refine lv_iconst (v := 1) hx hb dX9_readsOne_264 (by decide) ?_
                            refine lv_iadd hx hb dX9_readsOne_265 ?_
                            refine rp_10_20 hx hb hts hown hK hW hS h0 tw_7_89 dX9_readsOne_266 (fun σ_94 H locs eσ hW hS => ?_)
                            replace hm := rc_lt_at hm eσ
                            clear eσ
                            exact rc_evret hx hb hr hlocks hW hS (Nat.le_of_ble_eq_true rfl) (Nat.le_of_ble_eq_true rfl) hm dX9_readsOne_269
                          · replace hm := rc_t hm c_97
                            refine lv_iconst (v := 0) hx hb dX9_readsOne_250 (by decide) ?_
                            refine lv_goto (tgt := 255) hx hb dX9_readsOne_251 (by decide) ?_
                            refine lv_isub hx hb dX9_readsOne_255 ?_
                            refine rp_10_18 hx hb hts hown hK hW hS h0 tw_7_87 dX9_readsOne_256 (fun σ_95 H locs eσ hW hS => ?_)
                            replace hm := rc_lt_at hm eσ
                            clear eσ
                            refine lv_aload_n hx hb dX9_readsOne_259 rfl (lv_at hl 1 rfl) ?_
                            refine lv_dup hx hb dX9_readsOne_260 rfl ?_
                            refine rg_10_20 hx hb hts hown hK hW h0 tw_7_89 dX9_readsOne_261 ?_
                            refine lv_iconst (v := 1) hx hb dX9_readsOne_264 (by decide) ?_
                            refine lv_iadd hx hb dX9_readsOne_265 ?_
                            refine rp_10_20 hx hb hts hown hK hW hS h0 tw_7_89 dX9_readsOne_266 (fun σ_96 H locs eσ hW hS => ?_)
                            replace hm := rc_lt_at hm eσ
                            clear eσ
                            exact rc_evret hx hb hr hlocks hW hS (Nat.le_of_ble_eq_true rfl) (Nat.le_of_ble_eq_true rfl) hm dX9_readsOne_269
set_option maxHeartbeats 4000000 in
set_option maxRecDepth 100000 in
theorem k_X9_does (l : Launch) {Y : rc_Y} {sh : Nat → Nat} {rf : rc_F} (hT : rc_T Y sh rf) (a0 : Nat) (u1 : Int32) (h0 : sh a0 = 10) (sz : Nat) (σ σ' : rc_S) (r : Int32) (hm : f_X9_does rf a0 u1 σ = some (r, σ')) : Met l yX9_does (Cond.code yX9_does cX9_does 4 (some .int) :: rc_big) ({ frames := 4, cells := 0, slots := 0, locals := 93 } : Room) (rc_P Y sh rf σ sz [.ref a0, .int u1]) (va_Qi (fun (r' : Int32) (_ : Unit) => r' = r) (fun _ t => rc_W Y sh rf σ' t.heap) (rc_A sh sz)) 0 0 (rc_A sh sz) := by
  refine Met.ofW (cc := cX9_does) (maxL := 4) (ret := (some .int)) (by decide +kernel) rfl ?_
  intro p e s m args below meth c s₁ B hml hv
  obtain ⟨rfl, hsz, hW, hK, hE⟩ := hv
  have hx := B.exec
  have hb := B.bytes
  have hr := B.returns
  have hts : ∀ w ∈ rc_big, w.before _ s = true := fun w h => atoms_spec (ws := Cond.code yX9_does cX9_does 4 (some .int) :: rc_big) B.pre w (List.mem_cons_of_mem _ h)
  have hown : s.vm.findClass RX9 = some m.cls := findClass_of_methodNamed B.named
  have hlocks := B.notSynchronized
  clear B
  subst hsz
  have hS : va_S (rc_A sh s.heap.size) s.heap s.heap [] := va_S.rf
  have hl := lv_entry ([.ref a0, .int u1]) (n := 4) (Nat.le_of_ble_eq_true rfl)
  rw [lg_entry_eq]
  generalize (lg_sl ([.ref a0, .int u1]) ++ List.replicate (4 - (lg_sl ([.ref a0, .int u1])).length) Slot.unset).toArray = ls at hl ⊢
  have hl : lv_has ls 4 [(0, .ref a0), (1, .int u1)] := hl
  unfold f_X9_does at hm
  refine lv_aload_n hx hb dX9_does_0 rfl (lv_at hl 0 rfl) ?_
  refine rg_10_8 hx hb hts hown hK hW h0 tw_7_77 dX9_does_1 ?_
  refine lv_iconst (v := 4) hx hb dX9_does_4 (by decide) ?_
  refine lv_iload_n hx hb dX9_does_5 rfl (lv_at hl 1 rfl) ?_
  refine lv_imul hx hb dX9_does_6 ?_
  refine lv_iconst (v := 1) hx hb dX9_does_7 (by decide) ?_
  refine lv_iadd hx hb dX9_does_8 ?_
  have hi_1 := (rc_ix hm).1
  replace hm := (rc_ix hm).2
  refine rc_ialdj (j := (((4 : Int32) * u1) + (1 : Int32)).toNatClampNeg) hx hb hK hW (rc_t_10_8 hT h0) (by decide) rfl hi_1 rfl dX9_does_9 ?_
  refine lv_topi (fun v2_2 ev => ?_)
  replace hm := rc_lt_at hm ev
  clear ev
  refine lv_istore_n (lv' := [(2, .int v2_2), (0, .ref a0), (1, .int u1)]) hx hb dX9_does_10 rfl hl (by decide) rfl (fun ls hl => ?_)
  refine lv_aload_n hx hb dX9_does_11 rfl (lv_at hl 1 rfl) ?_
  refine rg_10_8 hx hb hts hown hK hW h0 tw_7_77 dX9_does_12 ?_
  refine lv_iconst (v := 4) hx hb dX9_does_15 (by decide) ?_
  refine lv_iload_n hx hb dX9_does_16 rfl (lv_at hl 2 rfl) ?_
  refine lv_imul hx hb dX9_does_17 ?_
  refine lv_iconst (v := 2) hx hb dX9_does_18 (by decide) ?_
  refine lv_iadd hx hb dX9_does_19 ?_
  have hi_3 := (rc_ix hm).1
  replace hm := (rc_ix hm).2
  refine rc_ialdj (j := (((4 : Int32) * u1) + (2 : Int32)).toNatClampNeg) hx hb hK hW (rc_t_10_8 hT h0) (by decide) rfl hi_3 rfl dX9_does_20 ?_
  refine lv_topi (fun v3_4 ev => ?_)
  replace hm := rc_lt_at hm ev
  clear ev
  refine lv_istore_n (lv' := [(3, .int v3_4), (2, .int v2_2), (0, .ref a0), (1, .int u1)]) hx hb dX9_does_21 rfl hl (by decide) rfl (fun ls hl => ?_)
  refine lv_aload_n hx hb dX9_does_22 rfl (lv_at hl 2 rfl) ?_
  refine rg_10_8 hx hb hts hown hK hW h0 tw_7_77 dX9_does_23 ?_
  refine lv_iconst (v := 4) hx hb dX9_does_26 (by decide) ?_
  refine lv_iload_n hx hb dX9_does_27 rfl (lv_at hl 3 rfl) ?_
  refine lv_imul hx hb dX9_does_28 ?_
  have hi_5 := (rc_ix hm).1
  replace hm := (rc_ix hm).2
  refine rc_ialdj (j := ((4 : Int32) * u1).toNatClampNeg) hx hb hK hW (rc_t_10_8 hT h0) (by decide) rfl hi_5 rfl dX9_does_29 ?_
  by_cases c_6 : (σ (rf a0 8) ((4 : Int32) * u1).toNatClampNeg) = (98 : Int32)
  · replace hm := rc_t hm c_6
    refine lv_tableIn (off := 113) (tgt := 143) hx hb dX9_does_30 (by rw [c_6]; decide) (by rw [c_6]; decide) (by rw [c_6]; decide) (by decide) ?_
    refine lv_aload_n hx hb dX9_does_143 rfl (lv_at hl 2 rfl) ?_
    refine lv_iload_n hx hb dX9_does_144 rfl (lv_at hl 1 rfl) ?_
    obtain ⟨w_7, σ_7, hc_7, hm0⟩ := rc_bd_inv hm
    clear hm
    refine rc_ci hS (va_runV (As := [.int v2_2]) (rest := []) ⟨hx, hb, hml, hown, hts⟩ (k_X9_places l hT a0 v2_2 h0 s.heap.size _ _ _ hc_7) (cwV 1 hts (rc_gV tw_7_195 tw_7_197 tw_p_27 tw_1_14 tw_7_198) rfl rfl rfl (by decide +kernel) ⟨Nat.le_of_ble_eq_true rfl, Nat.le_of_ble_eq_true rfl⟩) (rc_preV hT hW hK hE hS h0 (by decide) rfl (q := (RX9, TX9, 22)) rfl [.int v2_2]) rfl rfl hl.1 rfl (lv_room (Nat.le_of_ble_eq_true rfl)) dX9_does_145 ⟨Nat.le_of_ble_eq_true rfl, Nat.le_of_ble_eq_true rfl⟩) (fun H locs hW hS => ?_)
    have hm := hm0
    clear hm0 hc_7
    exact rc_eiret hx hb hr hlocks hW hS (Nat.le_of_ble_eq_true rfl) (Nat.le_of_ble_eq_true rfl) hm dX9_does_148
  · replace hm := rc_f hm c_6
    by_cases c_8 : (σ (rf a0 8) ((4 : Int32) * u1).toNatClampNeg) = (99 : Int32)
    · replace hm := rc_t hm c_8
      refine lv_tableIn (off := 175) (tgt := 205) hx hb dX9_does_30 (by rw [c_8]; decide) (by rw [c_8]; decide) (by rw [c_8]; decide) (by decide) ?_
      refine lv_aload_n hx hb dX9_does_205 rfl (lv_at hl 2 rfl) ?_
      refine lv_iload_n hx hb dX9_does_206 rfl (lv_at hl 1 rfl) ?_
      obtain ⟨w_9, σ_9, hc_9, hm0⟩ := rc_bd_inv hm
      clear hm
      refine rc_ci hS (va_runV (As := [.int v2_2]) (rest := []) ⟨hx, hb, hml, hown, hts⟩ (k_X9_clears l hT a0 v2_2 h0 s.heap.size _ _ _ hc_9) (cwV 1 hts (rc_gV tw_8_54 tw_8_56 tw_p_44 tw_1_14 tw_8_57) rfl rfl rfl (by decide +kernel) ⟨Nat.le_of_ble_eq_true rfl, Nat.le_of_ble_eq_true rfl⟩) (rc_preV hT hW hK hE hS h0 (by decide) rfl (q := (RX9, TX9, 22)) rfl [.int v2_2]) rfl rfl hl.1 rfl (lv_room (Nat.le_of_ble_eq_true rfl)) dX9_does_207 ⟨Nat.le_of_ble_eq_true rfl, Nat.le_of_ble_eq_true rfl⟩) (fun H locs hW hS => ?_)
      have hm := hm0
      clear hm0 hc_9
      exact rc_eiret hx hb hr hlocks hW hS (Nat.le_of_ble_eq_true rfl) (Nat.le_of_ble_eq_true rfl) hm dX9_does_210
    · replace hm := rc_f hm c_8
      by_cases c_10 : (σ (rf a0 8) ((4 : Int32) * u1).toNatClampNeg) = (103 : Int32)
      · replace hm := rc_t hm c_10
        refine lv_tableIn (off := 169) (tgt := 199) hx hb dX9_does_30 (by rw [c_10]; decide) (by rw [c_10]; decide) (by rw [c_10]; decide) (by decide) ?_
        refine lv_aload_n hx hb dX9_does_199 rfl (lv_at hl 2 rfl) ?_
        refine lv_iload_n hx hb dX9_does_200 rfl (lv_at hl 1 rfl) ?_
        obtain ⟨w_11, σ_11, hc_11, hm0⟩ := rc_bd_inv hm
        clear hm
        refine rc_ci hS (va_runV (As := [.int v2_2]) (rest := []) ⟨hx, hb, hml, hown, hts⟩ (k_X9_drinks l hT a0 v2_2 h0 s.heap.size _ _ _ hc_11) (cwV 1 hts (rc_gV tw_8_30 tw_8_32 tw_p_39 tw_1_14 tw_8_33) rfl rfl rfl (by decide +kernel) ⟨Nat.le_of_ble_eq_true rfl, Nat.le_of_ble_eq_true rfl⟩) (rc_preV hT hW hK hE hS h0 (by decide) rfl (q := (RX9, TX9, 22)) rfl [.int v2_2]) rfl rfl hl.1 rfl (lv_room (Nat.le_of_ble_eq_true rfl)) dX9_does_201 ⟨Nat.le_of_ble_eq_true rfl, Nat.le_of_ble_eq_true rfl⟩) (fun H locs hW hS => ?_)
        have hm := hm0
        clear hm0 hc_11
        exact rc_eiret hx hb hr hlocks hW hS (Nat.le_of_ble_eq_true rfl) (Nat.le_of_ble_eq_true rfl) hm dX9_does_204
      · replace hm := rc_f hm c_10
        by_cases c_12 : (σ (rf a0 8) ((4 : Int32) * u1).toNatClampNeg) = (104 : Int32)
        · replace hm := rc_t hm c_12
          refine lv_tableIn (off := 142) (tgt := 172) hx hb dX9_does_30 (by rw [c_12]; decide) (by rw [c_12]; decide) (by rw [c_12]; decide) (by decide) ?_
          refine lv_aload_n hx hb dX9_does_172 rfl (lv_at hl 2 rfl) ?_
          refine lv_iload_n hx hb dX9_does_173 rfl (lv_at hl 1 rfl) ?_
          refine lv_iload_n hx hb dX9_does_174 rfl (lv_at hl 0 rfl) ?_
          obtain ⟨w_13, σ_13, hc_13, hm0⟩ := rc_bd_inv hm
          clear hm
          refine rc_ci hS (va_runV (As := [.int v2_2, .int v3_4]) (rest := []) ⟨hx, hb, hml, hown, hts⟩ (k_X9_adulterates l hT a0 v2_2 v3_4 h0 s.heap.size _ _ _ hc_13) (cwV 2 hts (rc_gV tw_8_2 tw_8_4 tw_p_35 tw_1_14 tw_8_5) rfl rfl rfl (by decide +kernel) ⟨Nat.le_of_ble_eq_true rfl, Nat.le_of_ble_eq_true rfl⟩) (rc_preV hT hW hK hE hS h0 (by decide) rfl (q := (RX9, TX9, 22)) rfl [.int v2_2, .int v3_4]) rfl rfl hl.1 rfl (lv_room (Nat.le_of_ble_eq_true rfl)) dX9_does_175 ⟨Nat.le_of_ble_eq_true rfl, Nat.le_of_ble_eq_true rfl⟩) (fun H locs hW hS => ?_)
          have hm := hm0
          clear hm0 hc_13
          exact rc_eiret hx hb hr hlocks hW hS (Nat.le_of_ble_eq_true rfl) (Nat.le_of_ble_eq_true rfl) hm dX9_does_178
        · replace hm := rc_f hm c_12
          by_cases c_14 : (σ (rf a0 8) ((4 : Int32) * u1).toNatClampNeg) = (108 : Int32)
          · replace hm := rc_t hm c_14
            refine lv_tableIn (off := 163) (tgt := 193) hx hb dX9_does_30 (by rw [c_14]; decide) (by rw [c_14]; decide) (by rw [c_14]; decide) (by decide) ?_
            refine lv_aload_n hx hb dX9_does_193 rfl (lv_at hl 2 rfl) ?_
            refine lv_iload_n hx hb dX9_does_194 rfl (lv_at hl 1 rfl) ?_
            obtain ⟨w_15, σ_15, hc_15, hm0⟩ := rc_bd_inv hm
            clear hm
            refine rc_ci hS (va_runV (As := [.int v2_2]) (rest := []) ⟨hx, hb, hml, hown, hts⟩ (k_X9_leaves l hT a0 v2_2 h0 s.heap.size _ _ _ hc_15) (cwV 1 hts (rc_gV tw_8_18 tw_8_20 tw_p_37 tw_1_14 tw_8_21) rfl rfl rfl (by decide +kernel) ⟨Nat.le_of_ble_eq_true rfl, Nat.le_of_ble_eq_true rfl⟩) (rc_preV hT hW hK hE hS h0 (by decide) rfl (q := (RX9, TX9, 22)) rfl [.int v2_2]) rfl rfl hl.1 rfl (lv_room (Nat.le_of_ble_eq_true rfl)) dX9_does_195 ⟨Nat.le_of_ble_eq_true rfl, Nat.le_of_ble_eq_true rfl⟩) (fun H locs hW hS => ?_)
            have hm := hm0
            clear hm0 hc_15
            exact rc_eiret hx hb hr hlocks hW hS (Nat.le_of_ble_eq_true rfl) (Nat.le_of_ble_eq_true rfl) hm dX9_does_198
          · replace hm := rc_f hm c_14
            by_cases c_16 : (σ (rf a0 8) ((4 : Int32) * u1).toNatClampNeg) = (109 : Int32)
            · replace hm := rc_t hm c_16
              refine lv_tableIn (off := 149) (tgt := 179) hx hb dX9_does_30 (by rw [c_16]; decide) (by rw [c_16]; decide) (by rw [c_16]; decide) (by decide) ?_
              refine lv_aload_n hx hb dX9_does_179 rfl (lv_at hl 2 rfl) ?_
              refine lv_iload_n hx hb dX9_does_180 rfl (lv_at hl 1 rfl) ?_
              refine lv_iconst (v := 0) hx hb dX9_does_181 (by decide) ?_
              obtain ⟨w_17, σ_17, hc_17, hm0⟩ := rc_bd_inv hm
              clear hm
              refine rc_ci hS (va_runV (As := [.int v2_2, .int (0 : Int32)]) (rest := []) ⟨hx, hb, hml, hown, hts⟩ (k_X9_joins l hT a0 v2_2 (0 : Int32) h0 s.heap.size _ _ _ hc_17) (cwV 2 hts (rc_gV tw_8_10 tw_8_12 tw_p_36 tw_1_14 tw_8_13) rfl rfl rfl (by decide +kernel) ⟨Nat.le_of_ble_eq_true rfl, Nat.le_of_ble_eq_true rfl⟩) (rc_preV hT hW hK hE hS h0 (by decide) rfl (q := (RX9, TX9, 22)) rfl [.int v2_2, .int (0 : Int32)]) rfl rfl hl.1 rfl (lv_room (Nat.le_of_ble_eq_true rfl)) dX9_does_182 ⟨Nat.le_of_ble_eq_true rfl, Nat.le_of_ble_eq_true rfl⟩) (fun H locs hW hS => ?_)
              have hm := hm0
              clear hm0 hc_17
              exact rc_eiret hx hb hr hlocks hW hS (Nat.le_of_ble_eq_true rfl) (Nat.le_of_ble_eq_true rfl) hm dX9_does_185
            · replace hm := rc_f hm c_16
              by_cases c_18 : (σ (rf a0 8) ((4 : Int32) * u1).toNatClampNeg) = (112 : Int32)
              · replace hm := rc_t hm c_18
                refine lv_tableIn (off := 125) (tgt := 155) hx hb dX9_does_30 (by rw [c_18]; decide) (by rw [c_18]; decide) (by rw [c_18]; decide) (by decide) ?_
                refine lv_aload_n hx hb dX9_does_155 rfl (lv_at hl 2 rfl) ?_
                refine lv_iload_n hx hb dX9_does_156 rfl (lv_at hl 1 rfl) ?_
                refine lv_iload_n hx hb dX9_does_157 rfl (lv_at hl 0 rfl) ?_
                refine lv_aload_n hx hb dX9_does_158 rfl (lv_at hl 2 rfl) ?_
                refine rg_10_8 hx hb hts hown hK hW h0 tw_7_77 dX9_does_159 ?_
                refine lv_iconst (v := 4) hx hb dX9_does_162 (by decide) ?_
                refine lv_iload_n hx hb dX9_does_163 rfl (lv_at hl 3 rfl) ?_
                refine lv_imul hx hb dX9_does_164 ?_
                refine lv_iconst (v := 3) hx hb dX9_does_165 (by decide) ?_
                refine lv_iadd hx hb dX9_does_166 ?_
                have hi_19 := (rc_ix hm).1
                replace hm := (rc_ix hm).2
                refine rc_ialdj (j := (((4 : Int32) * u1) + (3 : Int32)).toNatClampNeg) hx hb hK hW (rc_t_10_8 hT h0) (by decide) rfl hi_19 rfl dX9_does_167 ?_
                obtain ⟨w_20, σ_20, hc_20, hm0⟩ := rc_bd_inv hm
                clear hm
                refine rc_ci hS (va_runV (As := [.int v2_2, .int v3_4, .int (σ (rf a0 8) (((4 : Int32) * u1) + (3 : Int32)).toNatClampNeg)]) (rest := []) ⟨hx, hb, hml, hown, hts⟩ (k_X9_pours l hT a0 v2_2 v3_4 (σ (rf a0 8) (((4 : Int32) * u1) + (3 : Int32)).toNatClampNeg) h0 s.heap.size _ _ _ hc_20) (cwV 3 hts (rc_gV tw_7_219 tw_7_221 tw_p_31 tw_1_14 tw_7_222) rfl rfl rfl (by decide +kernel) ⟨Nat.le_of_ble_eq_true rfl, Nat.le_of_ble_eq_true rfl⟩) (rc_preV hT hW hK hE hS h0 (by decide) rfl (q := (RX9, TX9, 22)) rfl [.int v2_2, .int v3_4, .int (σ (rf a0 8) (((4 : Int32) * u1) + (3 : Int32)).toNatClampNeg)]) rfl rfl hl.1 rfl (lv_room (Nat.le_of_ble_eq_true rfl)) dX9_does_168 ⟨Nat.le_of_ble_eq_true rfl, Nat.le_of_ble_eq_true rfl⟩) (fun H locs hW hS => ?_)
                have hm := hm0
                clear hm0 hc_20
                exact rc_eiret hx hb hr hlocks hW hS (Nat.le_of_ble_eq_true rfl) (Nat.le_of_ble_eq_true rfl) hm dX9_does_171
              · replace hm := rc_f hm c_18
                by_cases c_21 : (σ (rf a0 8) ((4 : Int32) * u1).toNatClampNeg) = (115 : Int32)
                · replace hm := rc_t hm c_21
                  refine lv_tableIn (off := 106) (tgt := 136) hx hb dX9_does_30 (by rw [c_21]; decide) (by rw [c_21]; decide) (by rw [c_21]; decide) (by decide) ?_
                  refine lv_aload_n hx hb dX9_does_136 rfl (lv_at hl 2 rfl) ?_
                  refine lv_iload_n hx hb dX9_does_137 rfl (lv_at hl 1 rfl) ?_
                  refine lv_iload_n hx hb dX9_does_138 rfl (lv_at hl 0 rfl) ?_
                  obtain ⟨w_22, σ_22, hc_22, hm0⟩ := rc_bd_inv hm
                  clear hm
                  refine rc_ci hS (va_runV (As := [.int v2_2, .int v3_4]) (rest := []) ⟨hx, hb, hml, hown, hts⟩ (k_X9_storms l hT a0 v2_2 v3_4 h0 s.heap.size _ _ _ hc_22) (cwV 2 hts (rc_gV tw_7_148 tw_7_150 tw_p_17 tw_1_14 tw_7_151) rfl rfl rfl (by decide +kernel) ⟨Nat.le_of_ble_eq_true rfl, Nat.le_of_ble_eq_true rfl⟩) (rc_preV hT hW hK hE hS h0 (by decide) rfl (q := (RX9, TX9, 22)) rfl [.int v2_2, .int v3_4]) rfl rfl hl.1 rfl (lv_room (Nat.le_of_ble_eq_true rfl)) dX9_does_139 ⟨Nat.le_of_ble_eq_true rfl, Nat.le_of_ble_eq_true rfl⟩) (fun H locs hW hS => ?_)
                  have hm := hm0
                  clear hm0 hc_22
                  exact rc_eiret hx hb hr hlocks hW hS (Nat.le_of_ble_eq_true rfl) (Nat.le_of_ble_eq_true rfl) hm dX9_does_142
                · replace hm := rc_f hm c_21
                  by_cases c_23 : (σ (rf a0 8) ((4 : Int32) * u1).toNatClampNeg) = (116 : Int32)
                  · replace hm := rc_t hm c_23
                    refine lv_tableIn (off := 156) (tgt := 186) hx hb dX9_does_30 (by rw [c_23]; decide) (by rw [c_23]; decide) (by rw [c_23]; decide) (by decide) ?_
                    refine lv_aload_n hx hb dX9_does_186 rfl (lv_at hl 2 rfl) ?_
                    refine lv_iload_n hx hb dX9_does_187 rfl (lv_at hl 1 rfl) ?_
                    refine lv_iconst (v := 1) hx hb dX9_does_188 (by decide) ?_
                    obtain ⟨w_24, σ_24, hc_24, hm0⟩ := rc_bd_inv hm
                    clear hm
                    refine rc_ci hS (va_runV (As := [.int v2_2, .int (1 : Int32)]) (rest := []) ⟨hx, hb, hml, hown, hts⟩ (k_X9_joins l hT a0 v2_2 (1 : Int32) h0 s.heap.size _ _ _ hc_24) (cwV 2 hts (rc_gV tw_8_10 tw_8_12 tw_p_36 tw_1_14 tw_8_13) rfl rfl rfl (by decide +kernel) ⟨Nat.le_of_ble_eq_true rfl, Nat.le_of_ble_eq_true rfl⟩) (rc_preV hT hW hK hE hS h0 (by decide) rfl (q := (RX9, TX9, 22)) rfl [.int v2_2, .int (1 : Int32)]) rfl rfl hl.1 rfl (lv_room (Nat.le_of_ble_eq_true rfl)) dX9_does_189 ⟨Nat.le_of_ble_eq_true rfl, Nat.le_of_ble_eq_true rfl⟩) (fun H locs hW hS => ?_)
                    have hm := hm0
                    clear hm0 hc_24
                    exact rc_eiret hx hb hr hlocks hW hS (Nat.le_of_ble_eq_true rfl) (Nat.le_of_ble_eq_true rfl) hm dX9_does_192
                  · replace hm := rc_f hm c_23
                    by_cases c_25 : (σ (rf a0 8) ((4 : Int32) * u1).toNatClampNeg) = (120 : Int32)
                    · replace hm := rc_t hm c_25
                      refine lv_tableIn (off := 119) (tgt := 149) hx hb dX9_does_30 (by rw [c_25]; decide) (by rw [c_25]; decide) (by rw [c_25]; decide) (by decide) ?_
                      refine lv_aload_n hx hb dX9_does_149 rfl (lv_at hl 2 rfl) ?_
                      refine lv_iload_n hx hb dX9_does_150 rfl (lv_at hl 1 rfl) ?_
                      obtain ⟨w_26, σ_26, hc_26, hm0⟩ := rc_bd_inv hm
                      clear hm
                      refine rc_ci hS (va_runV (As := [.int v2_2]) (rest := []) ⟨hx, hb, hml, hown, hts⟩ (k_X9_takes l hT a0 v2_2 h0 s.heap.size _ _ _ hc_26) (cwV 1 hts (rc_gV tw_7_207 tw_7_209 tw_p_29 tw_1_14 tw_7_210) rfl rfl rfl (by decide +kernel) ⟨Nat.le_of_ble_eq_true rfl, Nat.le_of_ble_eq_true rfl⟩) (rc_preV hT hW hK hE hS h0 (by decide) rfl (q := (RX9, TX9, 22)) rfl [.int v2_2]) rfl rfl hl.1 rfl (lv_room (Nat.le_of_ble_eq_true rfl)) dX9_does_151 ⟨Nat.le_of_ble_eq_true rfl, Nat.le_of_ble_eq_true rfl⟩) (fun H locs hW hS => ?_)
                      have hm := hm0
                      clear hm0 hc_26
                      exact rc_eiret hx hb hr hlocks hW hS (Nat.le_of_ble_eq_true rfl) (Nat.le_of_ble_eq_true rfl) hm dX9_does_154
                    · replace hm := rc_f hm c_25
                      refine rc_tblD (tgt := 211) hx hb dX9_does_30 [98, 99, 103, 104, 108, 109, 112, 115, 116, 120] (by decide +kernel) (by decide +kernel) (rc_nk c_6 (by decide) (rc_nk c_8 (by decide) (rc_nk c_10 (by decide) (rc_nk c_12 (by decide) (rc_nk c_14 (by decide) (rc_nk c_16 (by decide) (rc_nk c_18 (by decide) (rc_nk c_21 (by decide) (rc_nk c_23 (by decide) (rc_nk c_25 (by decide) rc_nk0)))))))))) (by decide) ?_
                      refine lv_aload_n hx hb dX9_does_211 rfl (lv_at hl 2 rfl) ?_
                      obtain ⟨w_27, σ_27, hc_27, hm0⟩ := rc_bd_inv hm
                      clear hm
                      refine rc_ci hS (va_runV (As := []) (rest := []) ⟨hx, hb, hml, hown, hts⟩ (k_X9_passes l hT a0 h0 s.heap.size _ _ _ hc_27) (cwV 0 hts (rc_gV tw_8_62 tw_8_64 tw_p_45 tw_1_14 tw_8_65) rfl rfl rfl (by decide +kernel) ⟨Nat.le_of_ble_eq_true rfl, Nat.le_of_ble_eq_true rfl⟩) (rc_preV hT hW hK hE hS h0 (by decide) rfl (q := (RX9, TX9, 22)) rfl []) rfl rfl hl.1 rfl (lv_room (Nat.le_of_ble_eq_true rfl)) dX9_does_212 ⟨Nat.le_of_ble_eq_true rfl, Nat.le_of_ble_eq_true rfl⟩) (fun H locs hW hS => ?_)
                      have hm := hm0
                      clear hm0 hc_27
                      exact rc_eiret hx hb hr hlocks hW hS (Nat.le_of_ble_eq_true rfl) (Nat.le_of_ble_eq_true rfl) hm dX9_does_215
