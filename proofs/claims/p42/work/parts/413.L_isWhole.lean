def f_L_isWhole_41 (rf : rc_F) (z : rc_Z) (r0 : Nat) (v1 : Int32) (v2 : Int32) (v3 : Int32) (v4 : Int32) (v5 : Int32) (v6 : Int32) (v7 : Int32) (K : Int32 → rc_S → Option (Int32 × rc_S)) : Nat → Int32 → rc_S → Option (Int32 × rc_S)
  | 0, _, _ => none
  | n_41 + 1, v8, σ =>
    if v2 ≤ v8 then
      K v8 σ
    else
      rc_jn (fun (w_108_3 : Int32) (σ_4 : rc_S) =>
        rc_bd (f_L_canPour rf z r0 v7 v8 σ_4) fun w_5 σ_5 =>
        rc_jn (fun (w_128_6 : Int32) (σ_7 : rc_S) =>
          if w_5 = w_128_6 then
            rc_lt (v8 + 1) fun v8_8 =>
            f_L_isWhole_41 rf z r0 v1 v2 v3 v4 v5 v6 v7 K n_41 v8_8 σ_7
          else
            some ((0 : Int32), σ_7)
        ) fun J_128 =>
        if w_108_3 = 0 then
          J_128 (0 : Int32) σ_5
        else
          J_128 (1 : Int32) σ_5
      ) fun J_108 =>
      if v7 = v8 then
        J_108 (0 : Int32) σ
      else
        rc_bd (f_L_barrelOf rf z r0 v7 (1 : Int32) σ) fun w_11 σ_11 =>
        if w_11 ≤ 0 then
          J_108 (0 : Int32) σ_11
        else
          rc_bd (f_L_barrelOf rf z r0 v8 (1 : Int32) σ_11) fun w_12 σ_12 =>
          if (20 : Int32) ≤ w_12 then
            J_108 (0 : Int32) σ_12
          else
            rc_bd (f_L_barrelOf rf z r0 v8 (1 : Int32) σ_12) fun w_13 σ_13 =>
            if w_13 = 0 then
              J_108 (1 : Int32) σ_13
            else
              rc_bd (f_L_barrelOf rf z r0 v7 (3 : Int32) σ_13) fun w_14 σ_14 =>
              rc_bd (f_L_barrelOf rf z r0 v8 (3 : Int32) σ_14) fun w_15 σ_15 =>
              if w_14 = w_15 then
                J_108 (1 : Int32) σ_15
              else
                J_108 (0 : Int32) σ_15
def f_L_isWhole_20 (rf : rc_F) (z : rc_Z) (r0 : Nat) (v1 : Int32) (v2 : Int32) (K : Int32 → Int32 → Int32 → Int32 → Int32 → rc_S → Option (Int32 × rc_S)) : Nat → Int32 → Int32 → Int32 → Int32 → Int32 → rc_S → Option (Int32 × rc_S)
  | 0, _, _, _, _, _, _ => none
  | n_20 + 1, v3, v4, v5, v6, v7, σ =>
    if v2 ≤ v7 then
      K v3 v4 v5 v6 v7 σ
    else
      rc_bd (f_L_isBarrel rf z r0 v7 v1 σ) fun w_2 σ_2 =>
      if w_2 = 0 then
        some ((0 : Int32), σ_2)
      else
        f_L_isWhole_41 rf z r0 v1 v2 v3 v4 v5 v6 v7 (fun v8_22 σ_23 =>
          rc_bd (f_L_barrelOf rf z r0 v7 (1 : Int32) σ_23) fun w_24 σ_24 =>
          rc_lt (v3 + w_24) fun v3_25 =>
          rc_bd (f_L_barrelOf rf z r0 v7 (2 : Int32) σ_24) fun w_26 σ_26 =>
          rc_lt (v4 + w_26) fun v4_27 =>
          rc_bd (f_L_note rf z r0 v7 σ_26) fun w_28 σ_28 =>
          rc_lt (v5 + (if (0 : Int32) < w_28 then w_28 else (0 : Int32))) fun v5_29 =>
          rc_bd (f_L_barrelOf rf z r0 v7 (1 : Int32) σ_28) fun w_30 σ_30 =>
          rc_jn (fun (w_193_31 : Int32) (σ_32 : rc_S) =>
            rc_lt (v6 + w_193_31) fun v6_33 =>
            rc_lt (v7 + 1) fun v7_34 =>
            f_L_isWhole_20 rf z r0 v1 v2 K n_20 v3_25 v4_27 v5_29 v6_33 v7_34 σ_32
          ) fun J_193 =>
          if w_30 ≤ 0 then
            J_193 (0 : Int32) σ_30
          else
            J_193 (1 : Int32) σ_30
        ) 9 (0 : Int32) σ_2
def f_L_isWhole_211 (rf : rc_F) (z : rc_Z) (r0 : Nat) (v2 : Int32) (v3 : Int32) (v4 : Int32) (v5 : Int32) (v6 : Int32) (K : Int32 → Int32 → Int32 → rc_S → Option (Int32 × rc_S)) : Nat → Int32 → Int32 → Int32 → rc_S → Option (Int32 × rc_S)
  | 0, _, _, _, _ => none
  | n_211 + 1, v7, v8, v9, σ =>
    if (4 : Int32) ≤ v9 then
      K v7 v8 v9 σ
    else
      rc_bd (f_L_roofOf rf z r0 v9 (0 : Int32) σ) fun w_44 σ_44 =>
      if w_44 < 0 then
        some ((0 : Int32), σ_44)
      else
        rc_bd (f_L_roofOf rf z r0 v9 (0 : Int32) σ_44) fun w_45 σ_45 =>
        if (9 : Int32) < w_45 then
          some ((0 : Int32), σ_45)
        else
          rc_bd (f_L_roofOf rf z r0 v9 (2 : Int32) σ_45) fun w_46 σ_46 =>
          rc_bd (f_L_roofOf rf z r0 v9 (1 : Int32) σ_46) fun w_47 σ_47 =>
          if w_46 ≤ w_47 then
            rc_bd (f_L_roofOf rf z r0 v9 (1 : Int32) σ_47) fun w_48 σ_48 =>
            rc_lt (v7 + w_48) fun v7_49 =>
            rc_bd (f_L_roofOf rf z r0 v9 (3 : Int32) σ_48) fun w_50 σ_50 =>
            rc_lt (v8 + w_50) fun v8_51 =>
            rc_lt (v9 + 1) fun v9_52 =>
            f_L_isWhole_211 rf z r0 v2 v3 v4 v5 v6 K n_211 v7_49 v8_51 v9_52 σ_50
          else
            some ((0 : Int32), σ_47)
def f_L_isWhole_294 (rf : rc_F) (z : rc_Z) (r0 : Nat) (v2 : Int32) (v3 : Int32) (v4 : Int32) (v5 : Int32) (v6 : Int32) (v7 : Int32) (v8 : Int32) (K : Int32 → Int32 → rc_S → Option (Int32 × rc_S)) : Nat → Int32 → Int32 → rc_S → Option (Int32 × rc_S)
  | 0, _, _, _ => none
  | n_294 + 1, v9, v10, σ =>
    rc_bd (f_L_account rf z r0 (5 : Int32) σ) fun w_61 σ_61 =>
    if w_61 ≤ v10 then
      K v9 v10 σ_61
    else
      rc_bd (f_L_account rf z r0 (5 : Int32) σ_61) fun w_62 σ_62 =>
      rc_jn (fun (w_322_63 : Int32) (σ_64 : rc_S) =>
        rc_jn (fun (σ_65 : rc_S) =>
          rc_bd (f_L_vintage rf z r0 v10 σ_65) fun w_66 σ_66 =>
          rc_lt (v9 + w_66) fun v9_67 =>
          rc_lt (v10 + 1) fun v10_68 =>
          f_L_isWhole_294 rf z r0 v2 v3 v4 v5 v6 v7 v8 K n_294 v9_67 v10_68 σ_66
        ) fun J_392 =>
        if w_322_63 = 0 then
          rc_bd (f_L_stormOf rf z r0 v10 (0 : Int32) σ_64) fun w_69 σ_69 =>
          if w_69 = (-75 : Int32) then
            J_392 σ_69
          else
            some ((0 : Int32), σ_69)
        else
          rc_bd (f_L_stormOf rf z r0 v10 (0 : Int32) σ_64) fun w_71 σ_71 =>
          if w_71 < (1 : Int32) then
            some ((0 : Int32), σ_71)
          else
            rc_bd (f_L_stormOf rf z r0 v10 (1 : Int32) σ_71) fun w_72 σ_72 =>
            rc_bd (f_L_account rf z r0 (4 : Int32) σ_72) fun w_73 σ_73 =>
            if w_73 < w_72 then
              some ((0 : Int32), σ_73)
            else
              rc_bd (f_L_stormOf rf z r0 v10 (2 : Int32) σ_73) fun w_74 σ_74 =>
              rc_bd (f_L_stormOf rf z r0 v10 (0 : Int32) σ_74) fun w_75 σ_75 =>
              if w_74 ≤ ((10 : Int32) * w_75) then
                J_392 σ_75
              else
                some ((0 : Int32), σ_75)
      ) fun J_322 =>
      if v10 < (w_62 - (12 : Int32)) then
        J_322 (0 : Int32) σ_62
      else
        J_322 (1 : Int32) σ_62
def f_L_isWhole_421 (rf : rc_F) (z : rc_Z) (r0 : Nat) (v2 : Int32) (v3 : Int32) (v4 : Int32) (v5 : Int32) (v6 : Int32) (v7 : Int32) (v8 : Int32) (v9 : Int32) (v10 : Int32) (K : Int32 → rc_S → Option (Int32 × rc_S)) : Nat → Int32 → rc_S → Option (Int32 × rc_S)
  | 0, _, _ => none
  | n_421 + 1, v11, σ =>
    if v2 ≤ v11 then
      K v11 σ
    else
      rc_bd (f_L_ranked rf z r0 v10 (v11 - (1 : Int32)) σ) fun w_85 σ_85 =>
      rc_bd (f_L_ranked rf z r0 v10 v11 σ_85) fun w_86 σ_86 =>
      rc_bd (f_L_measure rf z r0 v10 w_85 σ_86) fun w_87 σ_87 =>
      rc_bd (f_L_measure rf z r0 v10 w_86 σ_87) fun w_88 σ_88 =>
      rc_lt (w_87 - w_88) fun v14_89 =>
      if v14_89 < 0 then
        some ((0 : Int32), σ_88)
      else
        rc_jn (fun (σ_90 : rc_S) =>
          rc_lt (v11 + 1) fun v11_91 =>
          f_L_isWhole_421 rf z r0 v2 v3 v4 v5 v6 v7 v8 v9 v10 K n_421 v11_91 σ_90
        ) fun J_487 =>
        if v14_89 = 0 then
          if w_85 ≤ w_86 then
            J_487 σ_88
          else
            some ((0 : Int32), σ_88)
        else
          J_487 σ_88
def f_L_isWhole_412 (rf : rc_F) (z : rc_Z) (r0 : Nat) (v2 : Int32) (v3 : Int32) (v4 : Int32) (v5 : Int32) (v6 : Int32) (v7 : Int32) (v8 : Int32) (v9 : Int32) (K : Int32 → rc_S → Option (Int32 × rc_S)) : Nat → Int32 → rc_S → Option (Int32 × rc_S)
  | 0, _, _ => none
  | n_412 + 1, v10, σ =>
    if (4 : Int32) ≤ v10 then
      K v10 σ
    else
      f_L_isWhole_421 rf z r0 v2 v3 v4 v5 v6 v7 v8 v9 v10 (fun v11_96 σ_97 =>
        rc_lt (v10 + 1) fun v10_98 =>
        f_L_isWhole_412 rf z r0 v2 v3 v4 v5 v6 v7 v8 v9 K n_412 v10_98 σ_97
      ) 9 (1 : Int32) σ
def f_L_isWhole (rf : rc_F) (z : rc_Z) (a0 : Nat) (u1 : Int32) (σ : rc_S) : Option (Int32 × rc_S) :=
  rc_bd (f_L_account rf z a0 (0 : Int32) σ) fun w_1 σ_1 =>
  f_L_isWhole_20 rf z a0 u1 w_1 (fun v3_38 v4_39 v5_40 v6_41 v7_42 σ_43 =>
    f_L_isWhole_211 rf z a0 w_1 v3_38 v4_39 v5_40 v6_41 (fun v7_57 v8_58 v9_59 σ_60 =>
      f_L_isWhole_294 rf z a0 w_1 v3_38 v4_39 v5_40 v6_41 v7_57 v8_58 (fun v9_82 v10_83 σ_84 =>
        f_L_isWhole_412 rf z a0 w_1 v3_38 v4_39 v5_40 v6_41 v7_57 v8_58 v9_82 (fun v10_100 σ_101 =>
          rc_bd (f_L_account rf z a0 (1 : Int32) σ_101) fun w_102 σ_102 =>
          rc_jn (fun (w_571_103 : Int32) (σ_104 : rc_S) =>
            rc_bd (f_L_meanNote rf z a0 σ_104) fun w_105 σ_105 =>
            rc_jn (fun (w_595_106 : UInt64) (σ_107 : rc_S) =>
              rc_jn (fun (w_627_108 : Int32) (σ_109 : rc_S) =>
                if w_571_103 = 0 then
                  some ((0 : Int32), σ_109)
                else
                  if w_627_108 = 0 then
                    some ((0 : Int32), σ_109)
                  else
                    rc_bd (f_L_ranked rf z a0 (2 : Int32) w_1 σ_109) fun w_110 σ_110 =>
                    if w_110 = (-75 : Int32) then
                      rc_bd (f_L_account rf z a0 (5 : Int32) σ_110) fun w_111 σ_111 =>
                      rc_bd (f_L_vintage rf z a0 w_111 σ_111) fun w_112 σ_112 =>
                      if w_112 = (-75 : Int32) then
                        some ((1 : Int32), σ_112)
                      else
                        some ((0 : Int32), σ_112)
                    else
                      some ((0 : Int32), σ_110)
              ) fun J_627 =>
              if (Op.cmpValue (FP.dcmp (w_105) (w_595_106)) .l) = 0 then
                rc_bd (f_L_hailShare rf z a0 σ_107) fun w_117 σ_117 =>
                rc_jn (fun (w_618_118 : UInt32) (σ_119 : rc_S) =>
                  if (Op.cmpValue (FP.fcmp (w_117) (w_618_118)) .l) = 0 then
                    J_627 (1 : Int32) σ_119
                  else
                    J_627 (0 : Int32) σ_119
                ) fun J_618 =>
                if v3_38 = 0 then
                  J_618 (3264479232 : UInt32) σ_117
                else
                  rc_ck (decide ((FP.fdiv (FP.i2f v4_39) (FP.i2f v3_38)) &&& 0x7fffffff ≤ 0x7f800000)) <|
                  J_618 (FP.fdiv (FP.i2f v4_39) (FP.i2f v3_38)) σ_117
              else
                J_627 (0 : Int32) σ_107
            ) fun J_595 =>
            if v6_41 = 0 then
              J_595 (13858279740860792832 : UInt64) σ_105
            else
              rc_ck (decide ((FP.ddiv (FP.i2d v5_40) (FP.i2d v6_41)) &&& 0x7fffffffffffffff ≤ 0x7ff0000000000000)) <|
              J_595 (FP.ddiv (FP.i2d v5_40) (FP.i2d v6_41)) σ_105
          ) fun J_571 =>
          if w_102 = v3_38 then
            if v8_58 = v3_38 then
              if v7_57 = w_1 then
                if v9_82 = v3_38 then
                  rc_bd (f_L_account rf z a0 (2 : Int32) σ_102) fun w_126 σ_126 =>
                  if w_126 < 0 then
                    J_571 (0 : Int32) σ_126
                  else
                    rc_bd (f_L_account rf z a0 (2 : Int32) σ_126) fun w_127 σ_127 =>
                    if (9 : Int32) < w_127 then
                      J_571 (0 : Int32) σ_127
                    else
                      if (8 : Int32) < w_1 then
                        J_571 (0 : Int32) σ_127
                      else
                        rc_bd (f_L_account rf z a0 (3 : Int32) σ_127) fun w_128 σ_128 =>
                        if (4 : Int32) < w_128 then
                          J_571 (0 : Int32) σ_128
                        else
                          rc_bd (f_X8_isEven rf a0 σ_128) fun w_129 σ_129 =>
                          if w_129 = 0 then
                            J_571 (0 : Int32) σ_129
                          else
                            J_571 (1 : Int32) σ_129
                else
                  J_571 (0 : Int32) σ_102
              else
                J_571 (0 : Int32) σ_102
            else
              J_571 (0 : Int32) σ_102
          else
            J_571 (0 : Int32) σ_102
        ) 5 (0 : Int32) σ_84
      ) 101 (0 : Int32) (0 : Int32) σ_60
    ) 5 (0 : Int32) (0 : Int32) (0 : Int32) σ_43
  ) 9 (0 : Int32) (0 : Int32) (0 : Int32) (0 : Int32) (0 : Int32) σ_1
set_option maxHeartbeats 8000000 in
set_option maxRecDepth 100000 in
theorem k_L_isWhole (l : Launch) (hl9 : l.stackTraces = false) {Y : rc_Y} {sh : Nat → Nat} {rf : rc_F} (hT : rc_T Y sh rf) (z : rc_Z) (a0 : Nat) (u1 : Int32) (h0 : sh a0 = 9) (sz : Nat) (σ σ' : rc_S) (r : Int32) (hm : f_L_isWhole rf z a0 u1 σ = some (r, σ')) : Met l yL_isWhole (Cond.code yL_isWhole cL_isWhole 15 (some .boolean) :: rc_big) ({ frames := 12, cells := 2540, slots := 15240, locals := 226 } : Room) (rc_PL Y sh rf σ sz z [.ref a0, .int u1]) (va_Qi (fun (r' : Int32) (_ : Unit) => r' = r) (fun _ t => rc_W Y sh rf σ' t.heap) (rc_A sh sz)) 2540 15240 (rc_A sh sz) := by
  refine Met.ofW (cc := cL_isWhole) (maxL := 15) (ret := (some .boolean)) (by decide +kernel) rfl ?_
  intro p e s m args below meth c s₁ B hml hv
  obtain ⟨rfl, hsz, ⟨hW, hK, hE⟩, hN, hXz⟩ := hv
  have hx := B.exec
  have hb := B.bytes
  have hr := B.returns
  have hts : ∀ w ∈ rc_big, w.before _ s = true := fun w h => atoms_spec (ws := Cond.code yL_isWhole cL_isWhole 15 (some .boolean) :: rc_big) B.pre w (List.mem_cons_of_mem _ h)
  have hown : s.vm.findClass RL = some m.cls := findClass_of_methodNamed B.named
  have hlocks := B.notSynchronized
  clear B
  subst hsz
  have hS : va_S (rc_A sh s.heap.size) s.heap s.heap [] := va_S.rf
  have hl := lv_entry ([.ref a0, .int u1]) (n := 15) (Nat.le_of_ble_eq_true rfl)
  rw [lg_entry_eq]
  generalize (lg_sl ([.ref a0, .int u1]) ++ List.replicate (15 - (lg_sl ([.ref a0, .int u1])).length) Slot.unset).toArray = ls at hl ⊢
  have hl : lv_has ls 15 [(0, .ref a0), (1, .int u1)] := hl
  have lp_41 : ∀ (r0 : Nat) (v1 : Int32) (v2 : Int32) (v3 : Int32) (v4 : Int32) (v5 : Int32) (v6 : Int32) (v7 : Int32) (hr0 : sh r0 = 9) (C0 S0 : Nat) (hC0 : C0 ≤ 1307) (hS0 : S0 ≤ 7842) (K : Int32 → rc_S → Option (Int32 × rc_S)) (hKK : ∀ (v8 : Int32) (σ : rc_S) (H : Heap) (locs : List Loc) (ls : Array Slot), K v8 σ = some (r, σ') → rc_W Y sh rf σ H → va_S (rc_A sh s.heap.size) s.heap H locs → lv_has ls 15 [(0, .ref r0), (1, .int v1), (2, .int v2), (3, .int v3), (4, .int v4), (5, .int v5), (6, .int v6), (7, .int v7)] → W p l e (headSpec (Cond.code yL_isWhole cL_isWhole 15 (some .boolean) :: rc_big) ({ frames := 12, cells := 2540, slots := 15240, locals := 226 } : Room)).room s m (([.ref a0, .int u1] : List Value).toArray) below meth c H locs (C0 + 108) (S0 + 648) (MQ below (va_Qi (fun (r' : Int32) (_ : Unit) => r' = r) (fun _ t => rc_W Y sh rf σ' t.heap) (rc_A sh s.heap.size)) ([.ref a0, .int u1] : List Value).toArray s 2540 15240 (rc_A sh s.heap.size)) (F0 m 139 ls [])) (n : Nat) (hn : n ≤ 9) (v8 : Int32) (σ : rc_S) (H : Heap) (locs : List Loc) (ls : Array Slot), f_L_isWhole_41 rf z r0 v1 v2 v3 v4 v5 v6 v7 K n v8 σ = some (r, σ') → rc_W Y sh rf σ H → va_S (rc_A sh s.heap.size) s.heap H locs → lv_has ls 15 [(0, .ref r0), (1, .int v1), (2, .int v2), (3, .int v3), (4, .int v4), (5, .int v5), (6, .int v6), (7, .int v7), (8, .int v8)] → W p l e (headSpec (Cond.code yL_isWhole cL_isWhole 15 (some .boolean) :: rc_big) ({ frames := 12, cells := 2540, slots := 15240, locals := 226 } : Room)).room s m (([.ref a0, .int u1] : List Value).toArray) below meth c H locs (C0 + (9 - n) * 12) (S0 + (9 - n) * 72) (MQ below (va_Qi (fun (r' : Int32) (_ : Unit) => r' = r) (fun _ t => rc_W Y sh rf σ' t.heap) (rc_A sh s.heap.size)) ([.ref a0, .int u1] : List Value).toArray s 2540 15240 (rc_A sh s.heap.size)) (F0 m 41 ls []) := by
    intro r0 v1 v2 v3 v4 v5 v6 v7 hr0 C0 S0 hC0 hS0 K hKK n
    induction n with
    | zero =>
      intro hn v8 σ H locs ls hm
      rw [f_L_isWhole_41] at hm
      cases hm
    | succ n_41 ih =>
      intro hn v8 σ H locs ls hm hW hS hl
      rw [f_L_isWhole_41] at hm
      refine lv_iload hx hb dL_isWhole_41 (lv_at hl 8 rfl) ?_
      refine lv_iload_n hx hb dL_isWhole_43 rfl (lv_at hl 2 rfl) ?_
      refine lv_icmp_ge (tgt := 139) hx hb dL_isWhole_44 (by decide) (fun c_21 => ?_) (fun c_21 => ?_)
      · replace hm := rc_t hm c_21
        refine W.widen (k := C0 + 108) (n := S0 + 648) (by omega) (by omega) ?_
        exact hKK v8 σ _ _ _ hm hW hS (lv_sub hl [0, 1, 2, 3, 4, 5, 6, 7] rfl)
      · replace hm := rc_f hm c_21
        refine lv_iload hx hb dL_isWhole_47 (lv_at hl 7 rfl) ?_
        refine lv_iload hx hb dL_isWhole_49 (lv_at hl 8 rfl) ?_
        refine rc_jn_el hm (fun J => ∀ (w_108_3 : Int32) (σ_4 : rc_S) (H : Heap) (locs : List Loc) (ls : Array Slot), J w_108_3 σ_4 = some (r, σ') → rc_W Y sh rf σ_4 H → va_S (rc_A sh s.heap.size) s.heap H locs → lv_has ls 15 [(0, .ref r0), (1, .int v1), (2, .int v2), (3, .int v3), (4, .int v4), (5, .int v5), (6, .int v6), (7, .int v7), (8, .int v8)] → W p l e (headSpec (Cond.code yL_isWhole cL_isWhole 15 (some .boolean) :: rc_big) ({ frames := 12, cells := 2540, slots := 15240, locals := 226 } : Room)).room s m (([.ref a0, .int u1] : List Value).toArray) below meth c H locs (C0 + (9 - (n_41 + 1)) * 12 + 10) (S0 + (9 - (n_41 + 1)) * 72 + 60) (MQ below (va_Qi (fun (r' : Int32) (_ : Unit) => r' = r) (fun _ t => rc_W Y sh rf σ' t.heap) (rc_A sh s.heap.size)) ([.ref a0, .int u1] : List Value).toArray s 2540 15240 (rc_A sh s.heap.size)) (F0 m 108 ls [.int w_108_3])) ?_ (fun J_108 hJ_108 hm => ?_)
        · intro w_108_3 σ_4 H locs ls hm hW hS hl
          refine lv_istore (lv' := [(9, .int w_108_3), (0, .ref r0), (1, .int v1), (2, .int v2), (3, .int v3), (4, .int v4), (5, .int v5), (6, .int v6), (7, .int v7), (8, .int v8)]) hx hb dL_isWhole_108 hl (by decide) rfl (fun ls hl => ?_)
          refine lv_aload_n hx hb dL_isWhole_110 rfl (lv_at hl 1 rfl) ?_
          refine lv_iload hx hb dL_isWhole_111 (lv_at hl 8 rfl) ?_
          refine lv_iload hx hb dL_isWhole_113 (lv_at hl 9 rfl) ?_
          obtain ⟨w_5, σ_5, hc_5, hm0⟩ := rc_bd_inv hm
          clear hm
          refine rc_ci hS (vx_runSW (As := [.ref r0, .int v7, .int v8]) (rest := []) ⟨hx, hb, hml, hown, hts⟩ (k_L_canPour l hl9 hT z r0 v7 v8 hr0 H.size _ _ _ hc_5) (vx_cwSW 3 hts (rc_gS tw_6_212 tw_6_213 tw_1_0 tw_6_214) rfl rfl rfl (by decide +kernel) ⟨Nat.le_of_ble_eq_true rfl, Nat.le_of_ble_eq_true rfl⟩) (rc_preSL hT hW hK hE hN hXz hS [.ref r0, .int v7, .int v8]) rfl rfl hl.1 rfl (lv_room (Nat.le_of_ble_eq_true rfl)) dL_isWhole_115 ⟨show C0 + (9 - (n_41 + 1)) * 12 + 10 + 2 ≤ 2540 from by omega, show S0 + (9 - (n_41 + 1)) * 72 + 60 + 12 ≤ 15240 from by omega⟩) (fun H locs hW hS => ?_)
          have hm := hm0
          clear hm0 hc_5
          refine lv_iload hx hb dL_isWhole_118 (lv_at hl 0 rfl) ?_
          refine rc_jn_el hm (fun J => ∀ (w_128_6 : Int32) (σ_7 : rc_S) (H : Heap) (locs : List Loc) (ls : Array Slot), J w_128_6 σ_7 = some (r, σ') → rc_W Y sh rf σ_7 H → va_S (rc_A sh s.heap.size) s.heap H locs → lv_has ls 15 [(0, .ref r0), (1, .int v1), (2, .int v2), (3, .int v3), (4, .int v4), (5, .int v5), (6, .int v6), (7, .int v7), (8, .int v8)] → W p l e (headSpec (Cond.code yL_isWhole cL_isWhole 15 (some .boolean) :: rc_big) ({ frames := 12, cells := 2540, slots := 15240, locals := 226 } : Room)).room s m (([.ref a0, .int u1] : List Value).toArray) below meth c H locs (C0 + (9 - (n_41 + 1)) * 12 + 10 + 2) (S0 + (9 - (n_41 + 1)) * 72 + 60 + 12) (MQ below (va_Qi (fun (r' : Int32) (_ : Unit) => r' = r) (fun _ t => rc_W Y sh rf σ' t.heap) (rc_A sh s.heap.size)) ([.ref a0, .int u1] : List Value).toArray s 2540 15240 (rc_A sh s.heap.size)) (F0 m 128 ls [.int w_128_6, .int w_5])) ?_ (fun J_128 hJ_128 hm => ?_)
          · intro w_128_6 σ_7 H locs ls hm hW hS hl
            refine lv_icmp_eq (tgt := 133) hx hb dL_isWhole_128 (by decide) (fun c_9 => ?_) (fun c_9 => ?_)
            · replace hm := rc_t hm c_9
              obtain ⟨v8_8, ev⟩ : ∃ y : Int32, y = (v8 + 1) := ⟨_, rfl⟩
              replace hm := rc_lt_at hm ev
              refine lv_iinc (v := v8_8) (lv' := [(8, .int v8_8), (0, .ref r0), (1, .int v1), (2, .int v2), (3, .int v3), (4, .int v4), (5, .int v5), (6, .int v6), (7, .int v7)]) hx hb dL_isWhole_133 hl (k := 8) rfl (by rw [ev]; rfl) (by decide) rfl (fun ls hl => ?_)
              clear ev
              refine lv_goto (tgt := 41) hx hb dL_isWhole_136 (by decide) ?_
              refine W.widen (k := C0 + (9 - n_41) * 12) (n := S0 + (9 - n_41) * 72) (by omega) (by omega) ?_
              exact ih (by omega) v8_8 σ_7 _ _ _ hm hW hS (lv_sub hl [1, 2, 3, 4, 5, 6, 7, 8, 0] rfl)
            · replace hm := rc_f hm c_9
              refine lv_iconst (v := 0) hx hb dL_isWhole_131 (by decide) ?_
              exact rc_ezret hx hb hr hlocks hW hS (by omega) (by omega) rfl hm dL_isWhole_132
          refine lv_if_eq (tgt := 127) hx hb dL_isWhole_120 (by decide) (fun c_10 => ?_) (fun c_10 => ?_)
          · replace hm := rc_t hm c_10
            refine lv_iconst (v := 0) hx hb dL_isWhole_127 (by decide) ?_
            refine W.widen (k := C0 + (9 - (n_41 + 1)) * 12 + 10 + 2) (n := S0 + (9 - (n_41 + 1)) * 72 + 60 + 12) (by omega) (by omega) ?_
            exact hJ_128 (0 : Int32) σ_5 _ _ _ hm hW hS (lv_sub hl [1, 2, 3, 4, 5, 6, 7, 8, 9] rfl)
          · replace hm := rc_f hm c_10
            refine lv_iconst (v := 1) hx hb dL_isWhole_123 (by decide) ?_
            refine lv_goto (tgt := 128) hx hb dL_isWhole_124 (by decide) ?_
            refine W.widen (k := C0 + (9 - (n_41 + 1)) * 12 + 10 + 2) (n := S0 + (9 - (n_41 + 1)) * 72 + 60 + 12) (by omega) (by omega) ?_
            exact hJ_128 (1 : Int32) σ_5 _ _ _ hm hW hS (lv_sub hl [1, 2, 3, 4, 5, 6, 7, 8, 9] rfl)
        refine lv_icmp_eq (tgt := 107) hx hb dL_isWhole_51 (by decide) (fun c_20 => ?_) (fun c_20 => ?_)
        · replace hm := rc_t hm c_20
          refine lv_iconst (v := 0) hx hb dL_isWhole_107 (by decide) ?_
          refine W.widen (k := C0 + (9 - (n_41 + 1)) * 12 + 10) (n := S0 + (9 - (n_41 + 1)) * 72 + 60) (by omega) (by omega) ?_
          exact hJ_108 (0 : Int32) σ _ _ _ hm hW hS (lv_sub hl [0, 1, 2, 3, 4, 5, 6, 7, 8] rfl)
        · replace hm := rc_f hm c_20
          refine lv_aload_n hx hb dL_isWhole_54 rfl (lv_at hl 0 rfl) ?_
          refine lv_iload hx hb dL_isWhole_55 (lv_at hl 7 rfl) ?_
          refine lv_iconst (v := 1) hx hb dL_isWhole_57 (by decide) ?_
          obtain ⟨w_11, σ_11, hc_11, hm0⟩ := rc_bd_inv hm
          clear hm
          refine rc_ci hS (vx_runSW (As := [.ref r0, .int v7, .int (1 : Int32)]) (rest := []) ⟨hx, hb, hml, hown, hts⟩ (k_L_barrelOf l hl9 hT z r0 v7 (1 : Int32) hr0 H.size _ _ _ hc_11) (vx_cwSW 3 hts (rc_gS tw_6_45 tw_6_46 tw_1_0 tw_6_47) rfl rfl rfl (by decide +kernel) ⟨Nat.le_of_ble_eq_true rfl, Nat.le_of_ble_eq_true rfl⟩) (rc_preSL hT hW hK hE hN hXz hS [.ref r0, .int v7, .int (1 : Int32)]) rfl rfl hl.1 rfl (lv_room (Nat.le_of_ble_eq_true rfl)) dL_isWhole_58 ⟨show C0 + (9 - (n_41 + 1)) * 12 + 2 ≤ 2540 from by omega, show S0 + (9 - (n_41 + 1)) * 72 + 12 ≤ 15240 from by omega⟩) (fun H locs hW hS => ?_)
          have hm := hm0
          clear hm0 hc_11
          refine lv_if_le (tgt := 107) hx hb dL_isWhole_61 (by decide) (fun c_19 => ?_) (fun c_19 => ?_)
          · replace hm := rc_t hm c_19
            refine lv_iconst (v := 0) hx hb dL_isWhole_107 (by decide) ?_
            refine W.widen (k := C0 + (9 - (n_41 + 1)) * 12 + 10) (n := S0 + (9 - (n_41 + 1)) * 72 + 60) (by omega) (by omega) ?_
            exact hJ_108 (0 : Int32) σ_11 _ _ _ hm hW hS (lv_sub hl [0, 1, 2, 3, 4, 5, 6, 7, 8] rfl)
          · replace hm := rc_f hm c_19
            refine lv_aload_n hx hb dL_isWhole_64 rfl (lv_at hl 0 rfl) ?_
            refine lv_iload hx hb dL_isWhole_65 (lv_at hl 8 rfl) ?_
            refine lv_iconst (v := 1) hx hb dL_isWhole_67 (by decide) ?_
            obtain ⟨w_12, σ_12, hc_12, hm0⟩ := rc_bd_inv hm
            clear hm
            refine rc_ci hS (vx_runSW (As := [.ref r0, .int v8, .int (1 : Int32)]) (rest := []) ⟨hx, hb, hml, hown, hts⟩ (k_L_barrelOf l hl9 hT z r0 v8 (1 : Int32) hr0 H.size _ _ _ hc_12) (vx_cwSW 3 hts (rc_gS tw_6_45 tw_6_46 tw_1_0 tw_6_47) rfl rfl rfl (by decide +kernel) ⟨Nat.le_of_ble_eq_true rfl, Nat.le_of_ble_eq_true rfl⟩) (rc_preSL hT hW hK hE hN hXz hS [.ref r0, .int v8, .int (1 : Int32)]) rfl rfl hl.1 rfl (lv_room (Nat.le_of_ble_eq_true rfl)) dL_isWhole_68 ⟨show C0 + (9 - (n_41 + 1)) * 12 + 2 + 2 ≤ 2540 from by omega, show S0 + (9 - (n_41 + 1)) * 72 + 12 + 12 ≤ 15240 from by omega⟩) (fun H locs hW hS => ?_)
            have hm := hm0
            clear hm0 hc_12
            refine lv_bipush (v := 20) hx hb dL_isWhole_71 (by decide) ?_
            refine lv_icmp_ge (tgt := 107) hx hb dL_isWhole_73 (by decide) (fun c_18 => ?_) (fun c_18 => ?_)
            · replace hm := rc_t hm c_18
              refine lv_iconst (v := 0) hx hb dL_isWhole_107 (by decide) ?_
              refine W.widen (k := C0 + (9 - (n_41 + 1)) * 12 + 10) (n := S0 + (9 - (n_41 + 1)) * 72 + 60) (by omega) (by omega) ?_
              exact hJ_108 (0 : Int32) σ_12 _ _ _ hm hW hS (lv_sub hl [0, 1, 2, 3, 4, 5, 6, 7, 8] rfl)
            · replace hm := rc_f hm c_18
              refine lv_aload_n hx hb dL_isWhole_76 rfl (lv_at hl 0 rfl) ?_
              refine lv_iload hx hb dL_isWhole_77 (lv_at hl 8 rfl) ?_
              refine lv_iconst (v := 1) hx hb dL_isWhole_79 (by decide) ?_
              obtain ⟨w_13, σ_13, hc_13, hm0⟩ := rc_bd_inv hm
              clear hm
              refine rc_ci hS (vx_runSW (As := [.ref r0, .int v8, .int (1 : Int32)]) (rest := []) ⟨hx, hb, hml, hown, hts⟩ (k_L_barrelOf l hl9 hT z r0 v8 (1 : Int32) hr0 H.size _ _ _ hc_13) (vx_cwSW 3 hts (rc_gS tw_6_45 tw_6_46 tw_1_0 tw_6_47) rfl rfl rfl (by decide +kernel) ⟨Nat.le_of_ble_eq_true rfl, Nat.le_of_ble_eq_true rfl⟩) (rc_preSL hT hW hK hE hN hXz hS [.ref r0, .int v8, .int (1 : Int32)]) rfl rfl hl.1 rfl (lv_room (Nat.le_of_ble_eq_true rfl)) dL_isWhole_80 ⟨show C0 + (9 - (n_41 + 1)) * 12 + 2 + 2 + 2 ≤ 2540 from by omega, show S0 + (9 - (n_41 + 1)) * 72 + 12 + 12 + 12 ≤ 15240 from by omega⟩) (fun H locs hW hS => ?_)
              have hm := hm0
              clear hm0 hc_13
              refine lv_if_eq (tgt := 103) hx hb dL_isWhole_83 (by decide) (fun c_17 => ?_) (fun c_17 => ?_)
              · replace hm := rc_t hm c_17
                refine lv_iconst (v := 1) hx hb dL_isWhole_103 (by decide) ?_
                refine lv_goto (tgt := 108) hx hb dL_isWhole_104 (by decide) ?_
                refine W.widen (k := C0 + (9 - (n_41 + 1)) * 12 + 10) (n := S0 + (9 - (n_41 + 1)) * 72 + 60) (by omega) (by omega) ?_
                exact hJ_108 (1 : Int32) σ_13 _ _ _ hm hW hS (lv_sub hl [0, 1, 2, 3, 4, 5, 6, 7, 8] rfl)
              · replace hm := rc_f hm c_17
                refine lv_aload_n hx hb dL_isWhole_86 rfl (lv_at hl 0 rfl) ?_
                refine lv_iload hx hb dL_isWhole_87 (lv_at hl 7 rfl) ?_
                refine lv_iconst (v := 3) hx hb dL_isWhole_89 (by decide) ?_
                obtain ⟨w_14, σ_14, hc_14, hm0⟩ := rc_bd_inv hm
                clear hm
                refine rc_ci hS (vx_runSW (As := [.ref r0, .int v7, .int (3 : Int32)]) (rest := []) ⟨hx, hb, hml, hown, hts⟩ (k_L_barrelOf l hl9 hT z r0 v7 (3 : Int32) hr0 H.size _ _ _ hc_14) (vx_cwSW 3 hts (rc_gS tw_6_45 tw_6_46 tw_1_0 tw_6_47) rfl rfl rfl (by decide +kernel) ⟨Nat.le_of_ble_eq_true rfl, Nat.le_of_ble_eq_true rfl⟩) (rc_preSL hT hW hK hE hN hXz hS [.ref r0, .int v7, .int (3 : Int32)]) rfl rfl hl.1 rfl (lv_room (Nat.le_of_ble_eq_true rfl)) dL_isWhole_90 ⟨show C0 + (9 - (n_41 + 1)) * 12 + 2 + 2 + 2 + 2 ≤ 2540 from by omega, show S0 + (9 - (n_41 + 1)) * 72 + 12 + 12 + 12 + 12 ≤ 15240 from by omega⟩) (fun H locs hW hS => ?_)
                have hm := hm0
                clear hm0 hc_14
                refine lv_aload_n hx hb dL_isWhole_93 rfl (lv_at hl 0 rfl) ?_
                refine lv_iload hx hb dL_isWhole_94 (lv_at hl 8 rfl) ?_
                refine lv_iconst (v := 3) hx hb dL_isWhole_96 (by decide) ?_
                obtain ⟨w_15, σ_15, hc_15, hm0⟩ := rc_bd_inv hm
                clear hm
                refine rc_ci hS (vx_runSW (As := [.ref r0, .int v8, .int (3 : Int32)]) (rest := [.int w_14]) ⟨hx, hb, hml, hown, hts⟩ (k_L_barrelOf l hl9 hT z r0 v8 (3 : Int32) hr0 H.size _ _ _ hc_15) (vx_cwSW 3 hts (rc_gS tw_6_45 tw_6_46 tw_1_0 tw_6_47) rfl rfl rfl (by decide +kernel) ⟨Nat.le_of_ble_eq_true rfl, Nat.le_of_ble_eq_true rfl⟩) (rc_preSL hT hW hK hE hN hXz hS [.ref r0, .int v8, .int (3 : Int32)]) rfl rfl hl.1 rfl (lv_room (Nat.le_of_ble_eq_true rfl)) dL_isWhole_97 ⟨show C0 + (9 - (n_41 + 1)) * 12 + 2 + 2 + 2 + 2 + 2 ≤ 2540 from by omega, show S0 + (9 - (n_41 + 1)) * 72 + 12 + 12 + 12 + 12 + 12 ≤ 15240 from by omega⟩) (fun H locs hW hS => ?_)
                have hm := hm0
                clear hm0 hc_15
                refine lv_icmp_ne (tgt := 107) hx hb dL_isWhole_100 (by decide) (fun c_16 => ?_) (fun c_16 => ?_)
                · replace hm := rc_f hm c_16
                  refine lv_iconst (v := 0) hx hb dL_isWhole_107 (by decide) ?_
                  refine W.widen (k := C0 + (9 - (n_41 + 1)) * 12 + 10) (n := S0 + (9 - (n_41 + 1)) * 72 + 60) (by omega) (by omega) ?_
                  exact hJ_108 (0 : Int32) σ_15 _ _ _ hm hW hS (lv_sub hl [0, 1, 2, 3, 4, 5, 6, 7, 8] rfl)
                · replace hm := rc_t hm c_16
                  refine lv_iconst (v := 1) hx hb dL_isWhole_103 (by decide) ?_
                  refine lv_goto (tgt := 108) hx hb dL_isWhole_104 (by decide) ?_
                  refine W.widen (k := C0 + (9 - (n_41 + 1)) * 12 + 10) (n := S0 + (9 - (n_41 + 1)) * 72 + 60) (by omega) (by omega) ?_
                  exact hJ_108 (1 : Int32) σ_15 _ _ _ hm hW hS (lv_sub hl [0, 1, 2, 3, 4, 5, 6, 7, 8] rfl)
  have lp_20 : ∀ (r0 : Nat) (v1 : Int32) (v2 : Int32) (hr0 : sh r0 = 9) (C0 S0 : Nat) (hC0 : C0 ≤ 1) (hS0 : S0 ≤ 6) (K : Int32 → Int32 → Int32 → Int32 → Int32 → rc_S → Option (Int32 × rc_S)) (hKK : ∀ (v3 : Int32) (v4 : Int32) (v5 : Int32) (v6 : Int32) (v7 : Int32) (σ : rc_S) (H : Heap) (locs : List Loc) (ls : Array Slot), K v3 v4 v5 v6 v7 σ = some (r, σ') → rc_W Y sh rf σ H → va_S (rc_A sh s.heap.size) s.heap H locs → lv_has ls 15 [(0, .ref r0), (2, .int v2), (3, .int v3), (4, .int v4), (5, .int v5), (6, .int v6)] → W p l e (headSpec (Cond.code yL_isWhole cL_isWhole 15 (some .boolean) :: rc_big) ({ frames := 12, cells := 2540, slots := 15240, locals := 226 } : Room)).room s m (([.ref a0, .int u1] : List Value).toArray) below meth c H locs (C0 + 1422) (S0 + 8532) (MQ below (va_Qi (fun (r' : Int32) (_ : Unit) => r' = r) (fun _ t => rc_W Y sh rf σ' t.heap) (rc_A sh s.heap.size)) ([.ref a0, .int u1] : List Value).toArray s 2540 15240 (rc_A sh s.heap.size)) (F0 m 202 ls [])) (n : Nat) (hn : n ≤ 9) (v3 : Int32) (v4 : Int32) (v5 : Int32) (v6 : Int32) (v7 : Int32) (σ : rc_S) (H : Heap) (locs : List Loc) (ls : Array Slot), f_L_isWhole_20 rf z r0 v1 v2 K n v3 v4 v5 v6 v7 σ = some (r, σ') → rc_W Y sh rf σ H → va_S (rc_A sh s.heap.size) s.heap H locs → lv_has ls 15 [(0, .ref r0), (1, .int v1), (2, .int v2), (3, .int v3), (4, .int v4), (5, .int v5), (6, .int v6), (7, .int v7)] → W p l e (headSpec (Cond.code yL_isWhole cL_isWhole 15 (some .boolean) :: rc_big) ({ frames := 12, cells := 2540, slots := 15240, locals := 226 } : Room)).room s m (([.ref a0, .int u1] : List Value).toArray) below meth c H locs (C0 + (9 - n) * 158) (S0 + (9 - n) * 948) (MQ below (va_Qi (fun (r' : Int32) (_ : Unit) => r' = r) (fun _ t => rc_W Y sh rf σ' t.heap) (rc_A sh s.heap.size)) ([.ref a0, .int u1] : List Value).toArray s 2540 15240 (rc_A sh s.heap.size)) (F0 m 20 ls []) := by
    intro r0 v1 v2 hr0 C0 S0 hC0 hS0 K hKK n
    induction n with
    | zero =>
      intro hn v3 v4 v5 v6 v7 σ H locs ls hm
      rw [f_L_isWhole_20] at hm
      cases hm
    | succ n_20 ih =>
      intro hn v3 v4 v5 v6 v7 σ H locs ls hm hW hS hl
      rw [f_L_isWhole_20] at hm
      refine lv_iload hx hb dL_isWhole_20 (lv_at hl 7 rfl) ?_
      refine lv_iload_n hx hb dL_isWhole_22 rfl (lv_at hl 2 rfl) ?_
      refine lv_icmp_ge (tgt := 202) hx hb dL_isWhole_23 (by decide) (fun c_37 => ?_) (fun c_37 => ?_)
      · replace hm := rc_t hm c_37
        refine W.widen (k := C0 + 1422) (n := S0 + 8532) (by omega) (by omega) ?_
        exact hKK v3 v4 v5 v6 v7 σ _ _ _ hm hW hS (lv_sub hl [0, 2, 3, 4, 5, 6] rfl)
      · replace hm := rc_f hm c_37
        refine lv_aload_n hx hb dL_isWhole_26 rfl (lv_at hl 0 rfl) ?_
        refine lv_iload hx hb dL_isWhole_27 (lv_at hl 7 rfl) ?_
        refine lv_iload_n hx hb dL_isWhole_29 rfl (lv_at hl 1 rfl) ?_
        obtain ⟨w_2, σ_2, hc_2, hm0⟩ := rc_bd_inv hm
        clear hm
        refine rc_ci hS (va_runS (As := [.ref r0, .int v7, .int v1]) (rest := []) ⟨hx, hb, hml, hown, hts⟩ (k_L_isBarrel l hl9 hT z r0 v7 v1 hr0 H.size _ _ _ hc_2) (va_cwS 3 hts (rc_gS tw_6_144 tw_6_145 tw_1_0 tw_6_146) rfl rfl rfl (by decide +kernel) ⟨Nat.le_of_ble_eq_true rfl, Nat.le_of_ble_eq_true rfl⟩) (rc_preSL hT hW hK hE hN hXz hS [.ref r0, .int v7, .int v1]) rfl rfl hl.1 rfl (lv_room (Nat.le_of_ble_eq_true rfl)) dL_isWhole_30 ⟨show C0 + (9 - (n_20 + 1)) * 158 + 42 ≤ 2540 from by omega, show S0 + (9 - (n_20 + 1)) * 948 + 252 ≤ 15240 from by omega⟩) (fun H locs hW hS => ?_)
        have hm := hm0
        clear hm0 hc_2
        refine lv_if_ne (tgt := 38) hx hb dL_isWhole_33 (by decide) (fun c_36 => ?_) (fun c_36 => ?_)
        · replace hm := rc_f hm c_36
          refine lv_iconst (v := 0) hx hb dL_isWhole_38 (by decide) ?_
          refine lv_istore (lv' := [(8, .int (0 : Int32)), (0, .ref r0), (1, .int v1), (2, .int v2), (3, .int v3), (4, .int v4), (5, .int v5), (6, .int v6), (7, .int v7)]) hx hb dL_isWhole_39 hl (by decide) rfl (fun ls hl => ?_)
          refine W.widen (k := C0 + (9 - (n_20 + 1)) * 158 + 42 + (9 - 9) * 12) (n := S0 + (9 - (n_20 + 1)) * 948 + 252 + (9 - 9) * 72) (by omega) (by omega) ?_
          refine lp_41 r0 v1 v2 v3 v4 v5 v6 v7 hr0 (C0 + (9 - (n_20 + 1)) * 158 + 42) (S0 + (9 - (n_20 + 1)) * 948 + 252) (by omega) (by omega) _ (fun v8_22 σ_23 H locs ls hm hW hS hl => ?_) 9 (Nat.le_refl _) (0 : Int32) σ_2 _ _ _ hm hW hS (lv_sub hl [1, 2, 3, 4, 5, 6, 7, 8, 0] rfl)
          refine lv_iload_n hx hb dL_isWhole_139 rfl (lv_at hl 3 rfl) ?_
          refine lv_aload_n hx hb dL_isWhole_140 rfl (lv_at hl 0 rfl) ?_
          refine lv_iload hx hb dL_isWhole_141 (lv_at hl 7 rfl) ?_
          refine lv_iconst (v := 1) hx hb dL_isWhole_143 (by decide) ?_
          obtain ⟨w_24, σ_24, hc_24, hm0⟩ := rc_bd_inv hm
          clear hm
          refine rc_ci hS (vx_runSW (As := [.ref r0, .int v7, .int (1 : Int32)]) (rest := [.int v3]) ⟨hx, hb, hml, hown, hts⟩ (k_L_barrelOf l hl9 hT z r0 v7 (1 : Int32) hr0 H.size _ _ _ hc_24) (vx_cwSW 3 hts (rc_gS tw_6_45 tw_6_46 tw_1_0 tw_6_47) rfl rfl rfl (by decide +kernel) ⟨Nat.le_of_ble_eq_true rfl, Nat.le_of_ble_eq_true rfl⟩) (rc_preSL hT hW hK hE hN hXz hS [.ref r0, .int v7, .int (1 : Int32)]) rfl rfl hl.1 rfl (lv_room (Nat.le_of_ble_eq_true rfl)) dL_isWhole_144 ⟨show C0 + (9 - (n_20 + 1)) * 158 + 42 + 108 + 2 ≤ 2540 from by omega, show S0 + (9 - (n_20 + 1)) * 948 + 252 + 648 + 12 ≤ 15240 from by omega⟩) (fun H locs hW hS => ?_)
          have hm := hm0
          clear hm0 hc_24
          refine lv_iadd hx hb dL_isWhole_147 ?_
          refine lv_topi (fun v3_25 ev => ?_)
          replace hm := rc_lt_at hm ev
          clear ev
          refine lv_istore_n (lv' := [(3, .int v3_25), (0, .ref r0), (1, .int v1), (2, .int v2), (4, .int v4), (5, .int v5), (6, .int v6), (7, .int v7)]) hx hb dL_isWhole_148 rfl hl (by decide) rfl (fun ls hl => ?_)
          refine lv_iload hx hb dL_isWhole_149 (lv_at hl 4 rfl) ?_
          refine lv_aload_n hx hb dL_isWhole_151 rfl (lv_at hl 1 rfl) ?_
          refine lv_iload hx hb dL_isWhole_152 (lv_at hl 7 rfl) ?_
          refine lv_iconst (v := 2) hx hb dL_isWhole_154 (by decide) ?_
          obtain ⟨w_26, σ_26, hc_26, hm0⟩ := rc_bd_inv hm
          clear hm
          refine rc_ci hS (vx_runSW (As := [.ref r0, .int v7, .int (2 : Int32)]) (rest := [.int v4]) ⟨hx, hb, hml, hown, hts⟩ (k_L_barrelOf l hl9 hT z r0 v7 (2 : Int32) hr0 H.size _ _ _ hc_26) (vx_cwSW 3 hts (rc_gS tw_6_45 tw_6_46 tw_1_0 tw_6_47) rfl rfl rfl (by decide +kernel) ⟨Nat.le_of_ble_eq_true rfl, Nat.le_of_ble_eq_true rfl⟩) (rc_preSL hT hW hK hE hN hXz hS [.ref r0, .int v7, .int (2 : Int32)]) rfl rfl hl.1 rfl (lv_room (Nat.le_of_ble_eq_true rfl)) dL_isWhole_155 ⟨show C0 + (9 - (n_20 + 1)) * 158 + 42 + 108 + 2 + 2 ≤ 2540 from by omega, show S0 + (9 - (n_20 + 1)) * 948 + 252 + 648 + 12 + 12 ≤ 15240 from by omega⟩) (fun H locs hW hS => ?_)
          have hm := hm0
          clear hm0 hc_26
          refine lv_iadd hx hb dL_isWhole_158 ?_
          refine lv_topi (fun v4_27 ev => ?_)
          replace hm := rc_lt_at hm ev
          clear ev
          refine lv_istore (lv' := [(4, .int v4_27), (3, .int v3_25), (0, .ref r0), (1, .int v1), (2, .int v2), (5, .int v5), (6, .int v6), (7, .int v7)]) hx hb dL_isWhole_159 hl (by decide) rfl (fun ls hl => ?_)
          refine lv_iload hx hb dL_isWhole_161 (lv_at hl 5 rfl) ?_
          refine lv_iconst (v := 0) hx hb dL_isWhole_163 (by decide) ?_
          refine lv_aload_n hx hb dL_isWhole_164 rfl (lv_at hl 2 rfl) ?_
          refine lv_iload hx hb dL_isWhole_165 (lv_at hl 7 rfl) ?_
          obtain ⟨w_28, σ_28, hc_28, hm0⟩ := rc_bd_inv hm
          clear hm
          refine rc_ci hS (vx_runSW (As := [.ref r0, .int v7]) (rest := [.int (0 : Int32), .int v5]) ⟨hx, hb, hml, hown, hts⟩ (k_L_note l hl9 hT z r0 v7 hr0 H.size _ _ _ hc_28) (vx_cwSW 2 hts (rc_gS tw_2_117 tw_2_118 tw_1_0 tw_2_119) rfl rfl rfl (by decide +kernel) ⟨Nat.le_of_ble_eq_true rfl, Nat.le_of_ble_eq_true rfl⟩) (rc_preSL hT hW hK hE hN hXz hS [.ref r0, .int v7]) rfl rfl hl.1 rfl (lv_room (Nat.le_of_ble_eq_true rfl)) dL_isWhole_167 ⟨show C0 + (9 - (n_20 + 1)) * 158 + 42 + 108 + 2 + 2 + 2 ≤ 2540 from by omega, show S0 + (9 - (n_20 + 1)) * 948 + 252 + 648 + 12 + 12 + 12 ≤ 15240 from by omega⟩) (fun H locs hW hS => ?_)
          have hm := hm0
          clear hm0 hc_28
          refine va_mmax hx hb (hml.trans hl.1.symm) hown (hts _ tw_6_221) (hts _ tw_3_234) (hts _ tw_1_22) (hts _ tw_3_235) (Nat.le_of_ble_eq_true rfl) (Nat.le_of_ble_eq_true rfl) (show C0 + (9 - (n_20 + 1)) * 158 + 42 + 108 + 2 + 2 + 2 ≤ 2540 from by omega) (show S0 + (9 - (n_20 + 1)) * 948 + 252 + 648 + 12 + 12 + 12 ≤ 15240 from by omega) dL_isWhole_170 ?_
          refine lv_iadd hx hb dL_isWhole_173 ?_
          refine lv_topi (fun v5_29 ev => ?_)
          replace hm := rc_lt_at hm ev
          clear ev
          refine lv_istore (lv' := [(5, .int v5_29), (4, .int v4_27), (3, .int v3_25), (0, .ref r0), (1, .int v1), (2, .int v2), (6, .int v6), (7, .int v7)]) hx hb dL_isWhole_174 hl (by decide) rfl (fun ls hl => ?_)
          refine lv_iload hx hb dL_isWhole_176 (lv_at hl 6 rfl) ?_
          refine lv_aload_n hx hb dL_isWhole_178 rfl (lv_at hl 3 rfl) ?_
          refine lv_iload hx hb dL_isWhole_179 (lv_at hl 7 rfl) ?_
          refine lv_iconst (v := 1) hx hb dL_isWhole_181 (by decide) ?_
          obtain ⟨w_30, σ_30, hc_30, hm0⟩ := rc_bd_inv hm
          clear hm
          refine rc_ci hS (vx_runSW (As := [.ref r0, .int v7, .int (1 : Int32)]) (rest := [.int v6]) ⟨hx, hb, hml, hown, hts⟩ (k_L_barrelOf l hl9 hT z r0 v7 (1 : Int32) hr0 H.size _ _ _ hc_30) (vx_cwSW 3 hts (rc_gS tw_6_45 tw_6_46 tw_1_0 tw_6_47) rfl rfl rfl (by decide +kernel) ⟨Nat.le_of_ble_eq_true rfl, Nat.le_of_ble_eq_true rfl⟩) (rc_preSL hT hW hK hE hN hXz hS [.ref r0, .int v7, .int (1 : Int32)]) rfl rfl hl.1 rfl (lv_room (Nat.le_of_ble_eq_true rfl)) dL_isWhole_182 ⟨show C0 + (9 - (n_20 + 1)) * 158 + 42 + 108 + 2 + 2 + 2 + 2 ≤ 2540 from by omega, show S0 + (9 - (n_20 + 1)) * 948 + 252 + 648 + 12 + 12 + 12 + 12 ≤ 15240 from by omega⟩) (fun H locs hW hS => ?_)
          have hm := hm0
          clear hm0 hc_30
          refine rc_jn_el hm (fun J => ∀ (w_193_31 : Int32) (σ_32 : rc_S) (H : Heap) (locs : List Loc) (ls : Array Slot), J w_193_31 σ_32 = some (r, σ') → rc_W Y sh rf σ_32 H → va_S (rc_A sh s.heap.size) s.heap H locs → lv_has ls 15 [(5, .int v5_29), (4, .int v4_27), (3, .int v3_25), (0, .ref r0), (1, .int v1), (2, .int v2), (7, .int v7)] → W p l e (headSpec (Cond.code yL_isWhole cL_isWhole 15 (some .boolean) :: rc_big) ({ frames := 12, cells := 2540, slots := 15240, locals := 226 } : Room)).room s m (([.ref a0, .int u1] : List Value).toArray) below meth c H locs (C0 + (9 - (n_20 + 1)) * 158 + 42 + 108 + 2 + 2 + 2 + 2) (S0 + (9 - (n_20 + 1)) * 948 + 252 + 648 + 12 + 12 + 12 + 12) (MQ below (va_Qi (fun (r' : Int32) (_ : Unit) => r' = r) (fun _ t => rc_W Y sh rf σ' t.heap) (rc_A sh s.heap.size)) ([.ref a0, .int u1] : List Value).toArray s 2540 15240 (rc_A sh s.heap.size)) (F0 m 193 ls [.int w_193_31, .int v6])) ?_ (fun J_193 hJ_193 hm => ?_)
          · intro w_193_31 σ_32 H locs ls hm hW hS hl
            refine lv_iadd hx hb dL_isWhole_193 ?_
            refine lv_topi (fun v6_33 ev => ?_)
            replace hm := rc_lt_at hm ev
            clear ev
            refine lv_istore (lv' := [(6, .int v6_33), (5, .int v5_29), (4, .int v4_27), (3, .int v3_25), (0, .ref r0), (1, .int v1), (2, .int v2), (7, .int v7)]) hx hb dL_isWhole_194 hl (by decide) rfl (fun ls hl => ?_)
            obtain ⟨v7_34, ev⟩ : ∃ y : Int32, y = (v7 + 1) := ⟨_, rfl⟩
            replace hm := rc_lt_at hm ev
            refine lv_iinc (v := v7_34) (lv' := [(7, .int v7_34), (6, .int v6_33), (5, .int v5_29), (4, .int v4_27), (3, .int v3_25), (0, .ref r0), (1, .int v1), (2, .int v2)]) hx hb dL_isWhole_196 hl (k := 7) rfl (by rw [ev]; rfl) (by decide) rfl (fun ls hl => ?_)
            clear ev
            refine lv_goto (tgt := 20) hx hb dL_isWhole_199 (by decide) ?_
            refine W.widen (k := C0 + (9 - n_20) * 158) (n := S0 + (9 - n_20) * 948) (by omega) (by omega) ?_
            exact ih (by omega) v3_25 v4_27 v5_29 v6_33 v7_34 σ_32 _ _ _ hm hW hS (lv_sub hl [5, 6, 7, 4, 3, 2, 1, 0] rfl)
          refine lv_if_le (tgt := 192) hx hb dL_isWhole_185 (by decide) (fun c_35 => ?_) (fun c_35 => ?_)
          · replace hm := rc_t hm c_35
            refine lv_iconst (v := 0) hx hb dL_isWhole_192 (by decide) ?_
            refine W.widen (k := C0 + (9 - (n_20 + 1)) * 158 + 42 + 108 + 2 + 2 + 2 + 2) (n := S0 + (9 - (n_20 + 1)) * 948 + 252 + 648 + 12 + 12 + 12 + 12) (by omega) (by omega) ?_
            exact hJ_193 (0 : Int32) σ_30 _ _ _ hm hW hS (lv_sub hl [0, 1, 2, 3, 4, 5, 7] rfl)
          · replace hm := rc_f hm c_35
            refine lv_iconst (v := 1) hx hb dL_isWhole_188 (by decide) ?_
            refine lv_goto (tgt := 193) hx hb dL_isWhole_189 (by decide) ?_
            refine W.widen (k := C0 + (9 - (n_20 + 1)) * 158 + 42 + 108 + 2 + 2 + 2 + 2) (n := S0 + (9 - (n_20 + 1)) * 948 + 252 + 648 + 12 + 12 + 12 + 12) (by omega) (by omega) ?_
            exact hJ_193 (1 : Int32) σ_30 _ _ _ hm hW hS (lv_sub hl [0, 1, 2, 3, 4, 5, 7] rfl)
        · replace hm := rc_t hm c_36
          refine lv_iconst (v := 0) hx hb dL_isWhole_36 (by decide) ?_
          exact rc_ezret hx hb hr hlocks hW hS (by omega) (by omega) rfl hm dL_isWhole_37
  have lp_211 : ∀ (r0 : Nat) (v2 : Int32) (v3 : Int32) (v4 : Int32) (v5 : Int32) (v6 : Int32) (hr0 : sh r0 = 9) (C0 S0 : Nat) (hC0 : C0 ≤ 1423) (hS0 : S0 ≤ 8538) (K : Int32 → Int32 → Int32 → rc_S → Option (Int32 × rc_S)) (hKK : ∀ (v7 : Int32) (v8 : Int32) (v9 : Int32) (σ : rc_S) (H : Heap) (locs : List Loc) (ls : Array Slot), K v7 v8 v9 σ = some (r, σ') → rc_W Y sh rf σ H → va_S (rc_A sh s.heap.size) s.heap H locs → lv_has ls 15 [(0, .ref r0), (2, .int v2), (3, .int v3), (4, .int v4), (5, .int v5), (6, .int v6), (7, .int v7), (8, .int v8)] → W p l e (headSpec (Cond.code yL_isWhole cL_isWhole 15 (some .boolean) :: rc_big) ({ frames := 12, cells := 2540, slots := 15240, locals := 226 } : Room)).room s m (([.ref a0, .int u1] : List Value).toArray) below meth c H locs (C0 + 30) (S0 + 180) (MQ below (va_Qi (fun (r' : Int32) (_ : Unit) => r' = r) (fun _ t => rc_W Y sh rf σ' t.heap) (rc_A sh s.heap.size)) ([.ref a0, .int u1] : List Value).toArray s 2540 15240 (rc_A sh s.heap.size)) (F0 m 288 ls [])) (n : Nat) (hn : n ≤ 5) (v7 : Int32) (v8 : Int32) (v9 : Int32) (σ : rc_S) (H : Heap) (locs : List Loc) (ls : Array Slot), f_L_isWhole_211 rf z r0 v2 v3 v4 v5 v6 K n v7 v8 v9 σ = some (r, σ') → rc_W Y sh rf σ H → va_S (rc_A sh s.heap.size) s.heap H locs → lv_has ls 15 [(0, .ref r0), (2, .int v2), (3, .int v3), (4, .int v4), (5, .int v5), (6, .int v6), (7, .int v7), (8, .int v8), (9, .int v9)] → W p l e (headSpec (Cond.code yL_isWhole cL_isWhole 15 (some .boolean) :: rc_big) ({ frames := 12, cells := 2540, slots := 15240, locals := 226 } : Room)).room s m (([.ref a0, .int u1] : List Value).toArray) below meth c H locs (C0 + (5 - n) * 6) (S0 + (5 - n) * 36) (MQ below (va_Qi (fun (r' : Int32) (_ : Unit) => r' = r) (fun _ t => rc_W Y sh rf σ' t.heap) (rc_A sh s.heap.size)) ([.ref a0, .int u1] : List Value).toArray s 2540 15240 (rc_A sh s.heap.size)) (F0 m 211 ls []) := by
    intro r0 v2 v3 v4 v5 v6 hr0 C0 S0 hC0 hS0 K hKK n
    induction n with
    | zero =>
      intro hn v7 v8 v9 σ H locs ls hm
      rw [f_L_isWhole_211] at hm
      cases hm
    | succ n_211 ih =>
      intro hn v7 v8 v9 σ H locs ls hm hW hS hl
      rw [f_L_isWhole_211] at hm
      refine lv_iload hx hb dL_isWhole_211 (lv_at hl 8 rfl) ?_
      refine lv_iconst (v := 4) hx hb dL_isWhole_213 (by decide) ?_
      refine lv_icmp_ge (tgt := 288) hx hb dL_isWhole_214 (by decide) (fun c_56 => ?_) (fun c_56 => ?_)
      · replace hm := rc_t hm c_56
        refine W.widen (k := C0 + 30) (n := S0 + 180) (by omega) (by omega) ?_
        exact hKK v7 v8 v9 σ _ _ _ hm hW hS (lv_sub hl [0, 1, 2, 3, 4, 5, 6, 7] rfl)
      · replace hm := rc_f hm c_56
        refine lv_aload_n hx hb dL_isWhole_217 rfl (lv_at hl 0 rfl) ?_
        refine lv_iload hx hb dL_isWhole_218 (lv_at hl 8 rfl) ?_
        refine lv_iconst (v := 0) hx hb dL_isWhole_220 (by decide) ?_
        obtain ⟨w_44, σ_44, hc_44, hm0⟩ := rc_bd_inv hm
        clear hm
        refine rc_ci hS (vx_runSW (As := [.ref r0, .int v9, .int (0 : Int32)]) (rest := []) ⟨hx, hb, hml, hown, hts⟩ (k_L_roofOf l hl9 hT z r0 v9 (0 : Int32) hr0 H.size _ _ _ hc_44) (vx_cwSW 3 hts (rc_gS tw_6_29 tw_6_30 tw_1_0 tw_6_31) rfl rfl rfl (by decide +kernel) ⟨Nat.le_of_ble_eq_true rfl, Nat.le_of_ble_eq_true rfl⟩) (rc_preSL hT hW hK hE hN hXz hS [.ref r0, .int v9, .int (0 : Int32)]) rfl rfl hl.1 rfl (lv_room (Nat.le_of_ble_eq_true rfl)) dL_isWhole_221 ⟨show C0 + (5 - (n_211 + 1)) * 6 + 1 ≤ 2540 from by omega, show S0 + (5 - (n_211 + 1)) * 36 + 6 ≤ 15240 from by omega⟩) (fun H locs hW hS => ?_)
        have hm := hm0
        clear hm0 hc_44
        refine lv_if_lt (tgt := 256) hx hb dL_isWhole_224 (by decide) (fun c_55 => ?_) (fun c_55 => ?_)
        · replace hm := rc_t hm c_55
          refine lv_iconst (v := 0) hx hb dL_isWhole_256 (by decide) ?_
          exact rc_ezret hx hb hr hlocks hW hS (by omega) (by omega) rfl hm dL_isWhole_257
        · replace hm := rc_f hm c_55
          refine lv_aload_n hx hb dL_isWhole_227 rfl (lv_at hl 0 rfl) ?_
          refine lv_iload hx hb dL_isWhole_228 (lv_at hl 8 rfl) ?_
          refine lv_iconst (v := 0) hx hb dL_isWhole_230 (by decide) ?_
          obtain ⟨w_45, σ_45, hc_45, hm0⟩ := rc_bd_inv hm
          clear hm
          refine rc_ci hS (vx_runSW (As := [.ref r0, .int v9, .int (0 : Int32)]) (rest := []) ⟨hx, hb, hml, hown, hts⟩ (k_L_roofOf l hl9 hT z r0 v9 (0 : Int32) hr0 H.size _ _ _ hc_45) (vx_cwSW 3 hts (rc_gS tw_6_29 tw_6_30 tw_1_0 tw_6_31) rfl rfl rfl (by decide +kernel) ⟨Nat.le_of_ble_eq_true rfl, Nat.le_of_ble_eq_true rfl⟩) (rc_preSL hT hW hK hE hN hXz hS [.ref r0, .int v9, .int (0 : Int32)]) rfl rfl hl.1 rfl (lv_room (Nat.le_of_ble_eq_true rfl)) dL_isWhole_231 ⟨show C0 + (5 - (n_211 + 1)) * 6 + 1 + 1 ≤ 2540 from by omega, show S0 + (5 - (n_211 + 1)) * 36 + 6 + 6 ≤ 15240 from by omega⟩) (fun H locs hW hS => ?_)
          have hm := hm0
          clear hm0 hc_45
          refine lv_bipush (v := 9) hx hb dL_isWhole_234 (by decide) ?_
          refine lv_icmp_gt (tgt := 256) hx hb dL_isWhole_236 (by decide) (fun c_54 => ?_) (fun c_54 => ?_)
          · replace hm := rc_t hm c_54
            refine lv_iconst (v := 0) hx hb dL_isWhole_256 (by decide) ?_
            exact rc_ezret hx hb hr hlocks hW hS (by omega) (by omega) rfl hm dL_isWhole_257
          · replace hm := rc_f hm c_54
            refine lv_aload_n hx hb dL_isWhole_239 rfl (lv_at hl 0 rfl) ?_
            refine lv_iload hx hb dL_isWhole_240 (lv_at hl 8 rfl) ?_
            refine lv_iconst (v := 2) hx hb dL_isWhole_242 (by decide) ?_
            obtain ⟨w_46, σ_46, hc_46, hm0⟩ := rc_bd_inv hm
            clear hm
            refine rc_ci hS (vx_runSW (As := [.ref r0, .int v9, .int (2 : Int32)]) (rest := []) ⟨hx, hb, hml, hown, hts⟩ (k_L_roofOf l hl9 hT z r0 v9 (2 : Int32) hr0 H.size _ _ _ hc_46) (vx_cwSW 3 hts (rc_gS tw_6_29 tw_6_30 tw_1_0 tw_6_31) rfl rfl rfl (by decide +kernel) ⟨Nat.le_of_ble_eq_true rfl, Nat.le_of_ble_eq_true rfl⟩) (rc_preSL hT hW hK hE hN hXz hS [.ref r0, .int v9, .int (2 : Int32)]) rfl rfl hl.1 rfl (lv_room (Nat.le_of_ble_eq_true rfl)) dL_isWhole_243 ⟨show C0 + (5 - (n_211 + 1)) * 6 + 1 + 1 + 1 ≤ 2540 from by omega, show S0 + (5 - (n_211 + 1)) * 36 + 6 + 6 + 6 ≤ 15240 from by omega⟩) (fun H locs hW hS => ?_)
            have hm := hm0
            clear hm0 hc_46
            refine lv_aload_n hx hb dL_isWhole_246 rfl (lv_at hl 0 rfl) ?_
            refine lv_iload hx hb dL_isWhole_247 (lv_at hl 8 rfl) ?_
            refine lv_iconst (v := 1) hx hb dL_isWhole_249 (by decide) ?_
            obtain ⟨w_47, σ_47, hc_47, hm0⟩ := rc_bd_inv hm
            clear hm
            refine rc_ci hS (vx_runSW (As := [.ref r0, .int v9, .int (1 : Int32)]) (rest := [.int w_46]) ⟨hx, hb, hml, hown, hts⟩ (k_L_roofOf l hl9 hT z r0 v9 (1 : Int32) hr0 H.size _ _ _ hc_47) (vx_cwSW 3 hts (rc_gS tw_6_29 tw_6_30 tw_1_0 tw_6_31) rfl rfl rfl (by decide +kernel) ⟨Nat.le_of_ble_eq_true rfl, Nat.le_of_ble_eq_true rfl⟩) (rc_preSL hT hW hK hE hN hXz hS [.ref r0, .int v9, .int (1 : Int32)]) rfl rfl hl.1 rfl (lv_room (Nat.le_of_ble_eq_true rfl)) dL_isWhole_250 ⟨show C0 + (5 - (n_211 + 1)) * 6 + 1 + 1 + 1 + 1 ≤ 2540 from by omega, show S0 + (5 - (n_211 + 1)) * 36 + 6 + 6 + 6 + 6 ≤ 15240 from by omega⟩) (fun H locs hW hS => ?_)
            have hm := hm0
            clear hm0 hc_47
            refine lv_icmp_le (tgt := 258) hx hb dL_isWhole_253 (by decide) (fun c_53 => ?_) (fun c_53 => ?_)
            · replace hm := rc_t hm c_53
              refine lv_iload hx hb dL_isWhole_258 (lv_at hl 6 rfl) ?_
              refine lv_aload_n hx hb dL_isWhole_260 rfl (lv_at hl 0 rfl) ?_
              refine lv_iload hx hb dL_isWhole_261 (lv_at hl 8 rfl) ?_
              refine lv_iconst (v := 1) hx hb dL_isWhole_263 (by decide) ?_
              obtain ⟨w_48, σ_48, hc_48, hm0⟩ := rc_bd_inv hm
              clear hm
              refine rc_ci hS (vx_runSW (As := [.ref r0, .int v9, .int (1 : Int32)]) (rest := [.int v7]) ⟨hx, hb, hml, hown, hts⟩ (k_L_roofOf l hl9 hT z r0 v9 (1 : Int32) hr0 H.size _ _ _ hc_48) (vx_cwSW 3 hts (rc_gS tw_6_29 tw_6_30 tw_1_0 tw_6_31) rfl rfl rfl (by decide +kernel) ⟨Nat.le_of_ble_eq_true rfl, Nat.le_of_ble_eq_true rfl⟩) (rc_preSL hT hW hK hE hN hXz hS [.ref r0, .int v9, .int (1 : Int32)]) rfl rfl hl.1 rfl (lv_room (Nat.le_of_ble_eq_true rfl)) dL_isWhole_264 ⟨show C0 + (5 - (n_211 + 1)) * 6 + 1 + 1 + 1 + 1 + 1 ≤ 2540 from by omega, show S0 + (5 - (n_211 + 1)) * 36 + 6 + 6 + 6 + 6 + 6 ≤ 15240 from by omega⟩) (fun H locs hW hS => ?_)
              have hm := hm0
              clear hm0 hc_48
              refine lv_iadd hx hb dL_isWhole_267 ?_
              refine lv_topi (fun v7_49 ev => ?_)
              replace hm := rc_lt_at hm ev
              clear ev
              refine lv_istore (lv' := [(7, .int v7_49), (0, .ref r0), (2, .int v2), (3, .int v3), (4, .int v4), (5, .int v5), (6, .int v6), (8, .int v8), (9, .int v9)]) hx hb dL_isWhole_268 hl (by decide) rfl (fun ls hl => ?_)
              refine lv_iload hx hb dL_isWhole_270 (lv_at hl 7 rfl) ?_
              refine lv_aload_n hx hb dL_isWhole_272 rfl (lv_at hl 1 rfl) ?_
              refine lv_iload hx hb dL_isWhole_273 (lv_at hl 8 rfl) ?_
              refine lv_iconst (v := 3) hx hb dL_isWhole_275 (by decide) ?_
              obtain ⟨w_50, σ_50, hc_50, hm0⟩ := rc_bd_inv hm
              clear hm
              refine rc_ci hS (vx_runSW (As := [.ref r0, .int v9, .int (3 : Int32)]) (rest := [.int v8]) ⟨hx, hb, hml, hown, hts⟩ (k_L_roofOf l hl9 hT z r0 v9 (3 : Int32) hr0 H.size _ _ _ hc_50) (vx_cwSW 3 hts (rc_gS tw_6_29 tw_6_30 tw_1_0 tw_6_31) rfl rfl rfl (by decide +kernel) ⟨Nat.le_of_ble_eq_true rfl, Nat.le_of_ble_eq_true rfl⟩) (rc_preSL hT hW hK hE hN hXz hS [.ref r0, .int v9, .int (3 : Int32)]) rfl rfl hl.1 rfl (lv_room (Nat.le_of_ble_eq_true rfl)) dL_isWhole_276 ⟨show C0 + (5 - (n_211 + 1)) * 6 + 1 + 1 + 1 + 1 + 1 + 1 ≤ 2540 from by omega, show S0 + (5 - (n_211 + 1)) * 36 + 6 + 6 + 6 + 6 + 6 + 6 ≤ 15240 from by omega⟩) (fun H locs hW hS => ?_)
              have hm := hm0
              clear hm0 hc_50
              refine lv_iadd hx hb dL_isWhole_279 ?_
              refine lv_topi (fun v8_51 ev => ?_)
              replace hm := rc_lt_at hm ev
              clear ev
              refine lv_istore (lv' := [(8, .int v8_51), (7, .int v7_49), (0, .ref r0), (2, .int v2), (3, .int v3), (4, .int v4), (5, .int v5), (6, .int v6), (9, .int v9)]) hx hb dL_isWhole_280 hl (by decide) rfl (fun ls hl => ?_)
              obtain ⟨v9_52, ev⟩ : ∃ y : Int32, y = (v9 + 1) := ⟨_, rfl⟩
              replace hm := rc_lt_at hm ev
              refine lv_iinc (v := v9_52) (lv' := [(9, .int v9_52), (8, .int v8_51), (7, .int v7_49), (0, .ref r0), (2, .int v2), (3, .int v3), (4, .int v4), (5, .int v5), (6, .int v6)]) hx hb dL_isWhole_282 hl (k := 8) rfl (by rw [ev]; rfl) (by decide) rfl (fun ls hl => ?_)
              clear ev
              refine lv_goto (tgt := 211) hx hb dL_isWhole_285 (by decide) ?_
              refine W.widen (k := C0 + (5 - n_211) * 6) (n := S0 + (5 - n_211) * 36) (by omega) (by omega) ?_
              exact ih (by omega) v7_49 v8_51 v9_52 σ_50 _ _ _ hm hW hS (lv_sub hl [3, 4, 5, 6, 7, 8, 2, 1, 0] rfl)
            · replace hm := rc_f hm c_53
              refine lv_iconst (v := 0) hx hb dL_isWhole_256 (by decide) ?_
              exact rc_ezret hx hb hr hlocks hW hS (by omega) (by omega) rfl hm dL_isWhole_257
  have lp_294 : ∀ (r0 : Nat) (v2 : Int32) (v3 : Int32) (v4 : Int32) (v5 : Int32) (v6 : Int32) (v7 : Int32) (v8 : Int32) (hr0 : sh r0 = 9) (C0 S0 : Nat) (hC0 : C0 ≤ 1453) (hS0 : S0 ≤ 8718) (K : Int32 → Int32 → rc_S → Option (Int32 × rc_S)) (hKK : ∀ (v9 : Int32) (v10 : Int32) (σ : rc_S) (H : Heap) (locs : List Loc) (ls : Array Slot), K v9 v10 σ = some (r, σ') → rc_W Y sh rf σ H → va_S (rc_A sh s.heap.size) s.heap H locs → lv_has ls 15 [(0, .ref r0), (2, .int v2), (3, .int v3), (4, .int v4), (5, .int v5), (6, .int v6), (7, .int v7), (8, .int v8), (9, .int v9)] → W p l e (headSpec (Cond.code yL_isWhole cL_isWhole 15 (some .boolean) :: rc_big) ({ frames := 12, cells := 2540, slots := 15240, locals := 226 } : Room)).room s m (([.ref a0, .int u1] : List Value).toArray) below meth c H locs (C0 + 808) (S0 + 4848) (MQ below (va_Qi (fun (r' : Int32) (_ : Unit) => r' = r) (fun _ t => rc_W Y sh rf σ' t.heap) (rc_A sh s.heap.size)) ([.ref a0, .int u1] : List Value).toArray s 2540 15240 (rc_A sh s.heap.size)) (F0 m 409 ls [])) (n : Nat) (hn : n ≤ 101) (v9 : Int32) (v10 : Int32) (σ : rc_S) (H : Heap) (locs : List Loc) (ls : Array Slot), f_L_isWhole_294 rf z r0 v2 v3 v4 v5 v6 v7 v8 K n v9 v10 σ = some (r, σ') → rc_W Y sh rf σ H → va_S (rc_A sh s.heap.size) s.heap H locs → lv_has ls 15 [(0, .ref r0), (2, .int v2), (3, .int v3), (4, .int v4), (5, .int v5), (6, .int v6), (7, .int v7), (8, .int v8), (9, .int v9), (10, .int v10)] → W p l e (headSpec (Cond.code yL_isWhole cL_isWhole 15 (some .boolean) :: rc_big) ({ frames := 12, cells := 2540, slots := 15240, locals := 226 } : Room)).room s m (([.ref a0, .int u1] : List Value).toArray) below meth c H locs (C0 + (101 - n) * 8) (S0 + (101 - n) * 48) (MQ below (va_Qi (fun (r' : Int32) (_ : Unit) => r' = r) (fun _ t => rc_W Y sh rf σ' t.heap) (rc_A sh s.heap.size)) ([.ref a0, .int u1] : List Value).toArray s 2540 15240 (rc_A sh s.heap.size)) (F0 m 294 ls []) := by
    intro r0 v2 v3 v4 v5 v6 v7 v8 hr0 C0 S0 hC0 hS0 K hKK n
    induction n with
    | zero =>
      intro hn v9 v10 σ H locs ls hm
      rw [f_L_isWhole_294] at hm
      cases hm
    | succ n_294 ih =>
      intro hn v9 v10 σ H locs ls hm hW hS hl
      rw [f_L_isWhole_294] at hm
      refine lv_iload hx hb dL_isWhole_294 (lv_at hl 9 rfl) ?_
      refine lv_aload_n hx hb dL_isWhole_296 rfl (lv_at hl 0 rfl) ?_
      refine lv_iconst (v := 5) hx hb dL_isWhole_297 (by decide) ?_
      obtain ⟨w_61, σ_61, hc_61, hm0⟩ := rc_bd_inv hm
      clear hm
      refine rc_ci hS (vx_runSW (As := [.ref r0, .int (5 : Int32)]) (rest := [.int v10]) ⟨hx, hb, hml, hown, hts⟩ (k_L_account l hl9 hT z r0 (5 : Int32) hr0 H.size _ _ _ hc_61) (vx_cwSW 2 hts (rc_gS tw_3_118 tw_3_119 tw_1_0 tw_3_120) rfl rfl rfl (by decide +kernel) ⟨Nat.le_of_ble_eq_true rfl, Nat.le_of_ble_eq_true rfl⟩) (rc_preSL hT hW hK hE hN hXz hS [.ref r0, .int (5 : Int32)]) rfl rfl hl.1 rfl (lv_room (Nat.le_of_ble_eq_true rfl)) dL_isWhole_298 ⟨show C0 + (101 - (n_294 + 1)) * 8 + 1 ≤ 2540 from by omega, show S0 + (101 - (n_294 + 1)) * 48 + 6 ≤ 15240 from by omega⟩) (fun H locs hW hS => ?_)
      have hm := hm0
      clear hm0 hc_61
      refine lv_icmp_ge (tgt := 409) hx hb dL_isWhole_301 (by decide) (fun c_81 => ?_) (fun c_81 => ?_)
      · replace hm := rc_t hm c_81
        refine W.widen (k := C0 + 808) (n := S0 + 4848) (by omega) (by omega) ?_
        exact hKK v9 v10 σ_61 _ _ _ hm hW hS (lv_sub hl [0, 1, 2, 3, 4, 5, 6, 7, 8] rfl)
      · replace hm := rc_f hm c_81
        refine lv_iload hx hb dL_isWhole_304 (lv_at hl 9 rfl) ?_
        refine lv_aload_n hx hb dL_isWhole_306 rfl (lv_at hl 0 rfl) ?_
        refine lv_iconst (v := 5) hx hb dL_isWhole_307 (by decide) ?_
        obtain ⟨w_62, σ_62, hc_62, hm0⟩ := rc_bd_inv hm
        clear hm
        refine rc_ci hS (vx_runSW (As := [.ref r0, .int (5 : Int32)]) (rest := [.int v10]) ⟨hx, hb, hml, hown, hts⟩ (k_L_account l hl9 hT z r0 (5 : Int32) hr0 H.size _ _ _ hc_62) (vx_cwSW 2 hts (rc_gS tw_3_118 tw_3_119 tw_1_0 tw_3_120) rfl rfl rfl (by decide +kernel) ⟨Nat.le_of_ble_eq_true rfl, Nat.le_of_ble_eq_true rfl⟩) (rc_preSL hT hW hK hE hN hXz hS [.ref r0, .int (5 : Int32)]) rfl rfl hl.1 rfl (lv_room (Nat.le_of_ble_eq_true rfl)) dL_isWhole_308 ⟨show C0 + (101 - (n_294 + 1)) * 8 + 1 + 1 ≤ 2540 from by omega, show S0 + (101 - (n_294 + 1)) * 48 + 6 + 6 ≤ 15240 from by omega⟩) (fun H locs hW hS => ?_)
        have hm := hm0
        clear hm0 hc_62
        refine lv_bipush (v := 12) hx hb dL_isWhole_311 (by decide) ?_
        refine lv_isub hx hb dL_isWhole_313 ?_
        refine rc_jn_el hm (fun J => ∀ (w_322_63 : Int32) (σ_64 : rc_S) (H : Heap) (locs : List Loc) (ls : Array Slot), J w_322_63 σ_64 = some (r, σ') → rc_W Y sh rf σ_64 H → va_S (rc_A sh s.heap.size) s.heap H locs → lv_has ls 15 [(0, .ref r0), (2, .int v2), (3, .int v3), (4, .int v4), (5, .int v5), (6, .int v6), (7, .int v7), (8, .int v8), (9, .int v9), (10, .int v10)] → W p l e (headSpec (Cond.code yL_isWhole cL_isWhole 15 (some .boolean) :: rc_big) ({ frames := 12, cells := 2540, slots := 15240, locals := 226 } : Room)).room s m (([.ref a0, .int u1] : List Value).toArray) below meth c H locs (C0 + (101 - (n_294 + 1)) * 8 + 1 + 1) (S0 + (101 - (n_294 + 1)) * 48 + 6 + 6) (MQ below (va_Qi (fun (r' : Int32) (_ : Unit) => r' = r) (fun _ t => rc_W Y sh rf σ' t.heap) (rc_A sh s.heap.size)) ([.ref a0, .int u1] : List Value).toArray s 2540 15240 (rc_A sh s.heap.size)) (F0 m 322 ls [.int w_322_63])) ?_ (fun J_322 hJ_322 hm => ?_)
        · intro w_322_63 σ_64 H locs ls hm hW hS hl
          refine lv_istore (lv' := [(11, .int w_322_63), (0, .ref r0), (2, .int v2), (3, .int v3), (4, .int v4), (5, .int v5), (6, .int v6), (7, .int v7), (8, .int v8), (9, .int v9), (10, .int v10)]) hx hb dL_isWhole_322 hl (by decide) rfl (fun ls hl => ?_)
          refine lv_iload hx hb dL_isWhole_324 (lv_at hl 0 rfl) ?_
          refine rc_jn_el hm (fun J => ∀ (σ_65 : rc_S) (H : Heap) (locs : List Loc) (ls : Array Slot), J σ_65 = some (r, σ') → rc_W Y sh rf σ_65 H → va_S (rc_A sh s.heap.size) s.heap H locs → lv_has ls 15 [(0, .ref r0), (2, .int v2), (3, .int v3), (4, .int v4), (5, .int v5), (6, .int v6), (7, .int v7), (8, .int v8), (9, .int v9), (10, .int v10)] → W p l e (headSpec (Cond.code yL_isWhole cL_isWhole 15 (some .boolean) :: rc_big) ({ frames := 12, cells := 2540, slots := 15240, locals := 226 } : Room)).room s m (([.ref a0, .int u1] : List Value).toArray) below meth c H locs (C0 + (101 - (n_294 + 1)) * 8 + 1 + 1 + 5) (S0 + (101 - (n_294 + 1)) * 48 + 6 + 6 + 30) (MQ below (va_Qi (fun (r' : Int32) (_ : Unit) => r' = r) (fun _ t => rc_W Y sh rf σ' t.heap) (rc_A sh s.heap.size)) ([.ref a0, .int u1] : List Value).toArray s 2540 15240 (rc_A sh s.heap.size)) (F0 m 392 ls [])) ?_ (fun J_392 hJ_392 hm => ?_)
          · intro σ_65 H locs ls hm hW hS hl
            refine lv_iload hx hb dL_isWhole_392 (lv_at hl 8 rfl) ?_
            refine lv_aload_n hx hb dL_isWhole_394 rfl (lv_at hl 0 rfl) ?_
            refine lv_iload hx hb dL_isWhole_395 (lv_at hl 9 rfl) ?_
            obtain ⟨w_66, σ_66, hc_66, hm0⟩ := rc_bd_inv hm
            clear hm
            refine rc_ci hS (vx_runSW (As := [.ref r0, .int v10]) (rest := [.int v9]) ⟨hx, hb, hml, hown, hts⟩ (k_L_vintage l hl9 hT z r0 v10 hr0 H.size _ _ _ hc_66) (vx_cwSW 2 hts (rc_gS tw_6_234 tw_6_235 tw_1_0 tw_6_236) rfl rfl rfl (by decide +kernel) ⟨Nat.le_of_ble_eq_true rfl, Nat.le_of_ble_eq_true rfl⟩) (rc_preSL hT hW hK hE hN hXz hS [.ref r0, .int v10]) rfl rfl hl.1 rfl (lv_room (Nat.le_of_ble_eq_true rfl)) dL_isWhole_397 ⟨show C0 + (101 - (n_294 + 1)) * 8 + 1 + 1 + 5 + 1 ≤ 2540 from by omega, show S0 + (101 - (n_294 + 1)) * 48 + 6 + 6 + 30 + 6 ≤ 15240 from by omega⟩) (fun H locs hW hS => ?_)
            have hm := hm0
            clear hm0 hc_66
            refine lv_iadd hx hb dL_isWhole_400 ?_
            refine lv_topi (fun v9_67 ev => ?_)
            replace hm := rc_lt_at hm ev
            clear ev
            refine lv_istore (lv' := [(9, .int v9_67), (0, .ref r0), (2, .int v2), (3, .int v3), (4, .int v4), (5, .int v5), (6, .int v6), (7, .int v7), (8, .int v8), (10, .int v10)]) hx hb dL_isWhole_401 hl (by decide) rfl (fun ls hl => ?_)
            obtain ⟨v10_68, ev⟩ : ∃ y : Int32, y = (v10 + 1) := ⟨_, rfl⟩
            replace hm := rc_lt_at hm ev
            refine lv_iinc (v := v10_68) (lv' := [(10, .int v10_68), (9, .int v9_67), (0, .ref r0), (2, .int v2), (3, .int v3), (4, .int v4), (5, .int v5), (6, .int v6), (7, .int v7), (8, .int v8)]) hx hb dL_isWhole_403 hl (k := 9) rfl (by rw [ev]; rfl) (by decide) rfl (fun ls hl => ?_)
            clear ev
            refine lv_goto (tgt := 294) hx hb dL_isWhole_406 (by decide) ?_
            refine W.widen (k := C0 + (101 - n_294) * 8) (n := S0 + (101 - n_294) * 48) (by omega) (by omega) ?_
            exact ih (by omega) v9_67 v10_68 σ_66 _ _ _ hm hW hS (lv_sub hl [2, 3, 4, 5, 6, 7, 8, 9, 1, 0] rfl)
          refine lv_if_eq (tgt := 378) hx hb dL_isWhole_326 (by decide) (fun c_79 => ?_) (fun c_79 => ?_)
          · replace hm := rc_t hm c_79
            refine lv_aload_n hx hb dL_isWhole_378 rfl (lv_at hl 1 rfl) ?_
            refine lv_iload hx hb dL_isWhole_379 (lv_at hl 10 rfl) ?_
            refine lv_iconst (v := 0) hx hb dL_isWhole_381 (by decide) ?_
            obtain ⟨w_69, σ_69, hc_69, hm0⟩ := rc_bd_inv hm
            clear hm
            refine rc_ci hS (vx_runSW (As := [.ref r0, .int v10, .int (0 : Int32)]) (rest := []) ⟨hx, hb, hml, hown, hts⟩ (k_L_stormOf l hl9 hT z r0 v10 (0 : Int32) hr0 H.size _ _ _ hc_69) (vx_cwSW 3 hts (rc_gS tw_6_222 tw_6_223 tw_1_0 tw_6_224) rfl rfl rfl (by decide +kernel) ⟨Nat.le_of_ble_eq_true rfl, Nat.le_of_ble_eq_true rfl⟩) (rc_preSL hT hW hK hE hN hXz hS [.ref r0, .int v10, .int (0 : Int32)]) rfl rfl hl.1 rfl (lv_room (Nat.le_of_ble_eq_true rfl)) dL_isWhole_382 ⟨show C0 + (101 - (n_294 + 1)) * 8 + 1 + 1 + 1 ≤ 2540 from by omega, show S0 + (101 - (n_294 + 1)) * 48 + 6 + 6 + 6 ≤ 15240 from by omega⟩) (fun H locs hW hS => ?_)
            have hm := hm0
            clear hm0 hc_69
            refine lv_bipush (v := (-75)) hx hb dL_isWhole_385 (by decide) ?_
            refine lv_icmp_eq (tgt := 392) hx hb dL_isWhole_387 (by decide) (fun c_70 => ?_) (fun c_70 => ?_)
            · replace hm := rc_t hm c_70
              refine W.widen (k := C0 + (101 - (n_294 + 1)) * 8 + 1 + 1 + 5) (n := S0 + (101 - (n_294 + 1)) * 48 + 6 + 6 + 30) (by omega) (by omega) ?_
              exact hJ_392 σ_69 _ _ _ hm hW hS (lv_sub hl [1, 2, 3, 4, 5, 6, 7, 8, 9, 10] rfl)
            · replace hm := rc_f hm c_70
              refine lv_iconst (v := 0) hx hb dL_isWhole_390 (by decide) ?_
              exact rc_ezret hx hb hr hlocks hW hS (by omega) (by omega) rfl hm dL_isWhole_391
          · replace hm := rc_f hm c_79
            refine lv_aload_n hx hb dL_isWhole_329 rfl (lv_at hl 1 rfl) ?_
            refine lv_iload hx hb dL_isWhole_330 (lv_at hl 10 rfl) ?_
            refine lv_iconst (v := 0) hx hb dL_isWhole_332 (by decide) ?_
            obtain ⟨w_71, σ_71, hc_71, hm0⟩ := rc_bd_inv hm
            clear hm
            refine rc_ci hS (vx_runSW (As := [.ref r0, .int v10, .int (0 : Int32)]) (rest := []) ⟨hx, hb, hml, hown, hts⟩ (k_L_stormOf l hl9 hT z r0 v10 (0 : Int32) hr0 H.size _ _ _ hc_71) (vx_cwSW 3 hts (rc_gS tw_6_222 tw_6_223 tw_1_0 tw_6_224) rfl rfl rfl (by decide +kernel) ⟨Nat.le_of_ble_eq_true rfl, Nat.le_of_ble_eq_true rfl⟩) (rc_preSL hT hW hK hE hN hXz hS [.ref r0, .int v10, .int (0 : Int32)]) rfl rfl hl.1 rfl (lv_room (Nat.le_of_ble_eq_true rfl)) dL_isWhole_333 ⟨show C0 + (101 - (n_294 + 1)) * 8 + 1 + 1 + 1 ≤ 2540 from by omega, show S0 + (101 - (n_294 + 1)) * 48 + 6 + 6 + 6 ≤ 15240 from by omega⟩) (fun H locs hW hS => ?_)
            have hm := hm0
            clear hm0 hc_71
            refine lv_iconst (v := 1) hx hb dL_isWhole_336 (by decide) ?_
            refine lv_icmp_lt (tgt := 390) hx hb dL_isWhole_337 (by decide) (fun c_78 => ?_) (fun c_78 => ?_)
            · replace hm := rc_t hm c_78
              refine lv_iconst (v := 0) hx hb dL_isWhole_390 (by decide) ?_
              exact rc_ezret hx hb hr hlocks hW hS (by omega) (by omega) rfl hm dL_isWhole_391
            · replace hm := rc_f hm c_78
              refine lv_aload_n hx hb dL_isWhole_340 rfl (lv_at hl 1 rfl) ?_
              refine lv_iload hx hb dL_isWhole_341 (lv_at hl 10 rfl) ?_
              refine lv_iconst (v := 1) hx hb dL_isWhole_343 (by decide) ?_
              obtain ⟨w_72, σ_72, hc_72, hm0⟩ := rc_bd_inv hm
              clear hm
              refine rc_ci hS (vx_runSW (As := [.ref r0, .int v10, .int (1 : Int32)]) (rest := []) ⟨hx, hb, hml, hown, hts⟩ (k_L_stormOf l hl9 hT z r0 v10 (1 : Int32) hr0 H.size _ _ _ hc_72) (vx_cwSW 3 hts (rc_gS tw_6_222 tw_6_223 tw_1_0 tw_6_224) rfl rfl rfl (by decide +kernel) ⟨Nat.le_of_ble_eq_true rfl, Nat.le_of_ble_eq_true rfl⟩) (rc_preSL hT hW hK hE hN hXz hS [.ref r0, .int v10, .int (1 : Int32)]) rfl rfl hl.1 rfl (lv_room (Nat.le_of_ble_eq_true rfl)) dL_isWhole_344 ⟨show C0 + (101 - (n_294 + 1)) * 8 + 1 + 1 + 1 + 1 ≤ 2540 from by omega, show S0 + (101 - (n_294 + 1)) * 48 + 6 + 6 + 6 + 6 ≤ 15240 from by omega⟩) (fun H locs hW hS => ?_)
              have hm := hm0
              clear hm0 hc_72
              refine lv_aload_n hx hb dL_isWhole_347 rfl (lv_at hl 1 rfl) ?_
              refine lv_iconst (v := 4) hx hb dL_isWhole_348 (by decide) ?_
              obtain ⟨w_73, σ_73, hc_73, hm0⟩ := rc_bd_inv hm
              clear hm
              refine rc_ci hS (vx_runSW (As := [.ref r0, .int (4 : Int32)]) (rest := [.int w_72]) ⟨hx, hb, hml, hown, hts⟩ (k_L_account l hl9 hT z r0 (4 : Int32) hr0 H.size _ _ _ hc_73) (vx_cwSW 2 hts (rc_gS tw_3_118 tw_3_119 tw_1_0 tw_3_120) rfl rfl rfl (by decide +kernel) ⟨Nat.le_of_ble_eq_true rfl, Nat.le_of_ble_eq_true rfl⟩) (rc_preSL hT hW hK hE hN hXz hS [.ref r0, .int (4 : Int32)]) rfl rfl hl.1 rfl (lv_room (Nat.le_of_ble_eq_true rfl)) dL_isWhole_349 ⟨show C0 + (101 - (n_294 + 1)) * 8 + 1 + 1 + 1 + 1 + 1 ≤ 2540 from by omega, show S0 + (101 - (n_294 + 1)) * 48 + 6 + 6 + 6 + 6 + 6 ≤ 15240 from by omega⟩) (fun H locs hW hS => ?_)
              have hm := hm0
              clear hm0 hc_73
              refine lv_icmp_gt (tgt := 390) hx hb dL_isWhole_352 (by decide) (fun c_77 => ?_) (fun c_77 => ?_)
              · replace hm := rc_t hm c_77
                refine lv_iconst (v := 0) hx hb dL_isWhole_390 (by decide) ?_
                exact rc_ezret hx hb hr hlocks hW hS (by omega) (by omega) rfl hm dL_isWhole_391
              · replace hm := rc_f hm c_77
                refine lv_aload_n hx hb dL_isWhole_355 rfl (lv_at hl 1 rfl) ?_
                refine lv_iload hx hb dL_isWhole_356 (lv_at hl 10 rfl) ?_
                refine lv_iconst (v := 2) hx hb dL_isWhole_358 (by decide) ?_
                obtain ⟨w_74, σ_74, hc_74, hm0⟩ := rc_bd_inv hm
                clear hm
                refine rc_ci hS (vx_runSW (As := [.ref r0, .int v10, .int (2 : Int32)]) (rest := []) ⟨hx, hb, hml, hown, hts⟩ (k_L_stormOf l hl9 hT z r0 v10 (2 : Int32) hr0 H.size _ _ _ hc_74) (vx_cwSW 3 hts (rc_gS tw_6_222 tw_6_223 tw_1_0 tw_6_224) rfl rfl rfl (by decide +kernel) ⟨Nat.le_of_ble_eq_true rfl, Nat.le_of_ble_eq_true rfl⟩) (rc_preSL hT hW hK hE hN hXz hS [.ref r0, .int v10, .int (2 : Int32)]) rfl rfl hl.1 rfl (lv_room (Nat.le_of_ble_eq_true rfl)) dL_isWhole_359 ⟨show C0 + (101 - (n_294 + 1)) * 8 + 1 + 1 + 1 + 1 + 1 + 1 ≤ 2540 from by omega, show S0 + (101 - (n_294 + 1)) * 48 + 6 + 6 + 6 + 6 + 6 + 6 ≤ 15240 from by omega⟩) (fun H locs hW hS => ?_)
                have hm := hm0
                clear hm0 hc_74
                refine lv_bipush (v := 10) hx hb dL_isWhole_362 (by decide) ?_
                refine lv_aload_n hx hb dL_isWhole_364 rfl (lv_at hl 1 rfl) ?_
                refine lv_iload hx hb dL_isWhole_365 (lv_at hl 10 rfl) ?_
                refine lv_iconst (v := 0) hx hb dL_isWhole_367 (by decide) ?_
                obtain ⟨w_75, σ_75, hc_75, hm0⟩ := rc_bd_inv hm
                clear hm
                refine rc_ci hS (vx_runSW (As := [.ref r0, .int v10, .int (0 : Int32)]) (rest := [.int (10 : Int32), .int w_74]) ⟨hx, hb, hml, hown, hts⟩ (k_L_stormOf l hl9 hT z r0 v10 (0 : Int32) hr0 H.size _ _ _ hc_75) (vx_cwSW 3 hts (rc_gS tw_6_222 tw_6_223 tw_1_0 tw_6_224) rfl rfl rfl (by decide +kernel) ⟨Nat.le_of_ble_eq_true rfl, Nat.le_of_ble_eq_true rfl⟩) (rc_preSL hT hW hK hE hN hXz hS [.ref r0, .int v10, .int (0 : Int32)]) rfl rfl hl.1 rfl (lv_room (Nat.le_of_ble_eq_true rfl)) dL_isWhole_368 ⟨show C0 + (101 - (n_294 + 1)) * 8 + 1 + 1 + 1 + 1 + 1 + 1 + 1 ≤ 2540 from by omega, show S0 + (101 - (n_294 + 1)) * 48 + 6 + 6 + 6 + 6 + 6 + 6 + 6 ≤ 15240 from by omega⟩) (fun H locs hW hS => ?_)
                have hm := hm0
                clear hm0 hc_75
                refine lv_imul hx hb dL_isWhole_371 ?_
                refine lv_icmp_le (tgt := 392) hx hb dL_isWhole_372 (by decide) (fun c_76 => ?_) (fun c_76 => ?_)
                · replace hm := rc_t hm c_76
                  refine W.widen (k := C0 + (101 - (n_294 + 1)) * 8 + 1 + 1 + 5) (n := S0 + (101 - (n_294 + 1)) * 48 + 6 + 6 + 30) (by omega) (by omega) ?_
                  exact hJ_392 σ_75 _ _ _ hm hW hS (lv_sub hl [1, 2, 3, 4, 5, 6, 7, 8, 9, 10] rfl)
                · replace hm := rc_f hm c_76
                  refine lv_goto (tgt := 390) hx hb dL_isWhole_375 (by decide) ?_
                  refine lv_iconst (v := 0) hx hb dL_isWhole_390 (by decide) ?_
                  exact rc_ezret hx hb hr hlocks hW hS (by omega) (by omega) rfl hm dL_isWhole_391
        refine lv_icmp_lt (tgt := 321) hx hb dL_isWhole_314 (by decide) (fun c_80 => ?_) (fun c_80 => ?_)
        · replace hm := rc_t hm c_80
          refine lv_iconst (v := 0) hx hb dL_isWhole_321 (by decide) ?_
          refine W.widen (k := C0 + (101 - (n_294 + 1)) * 8 + 1 + 1) (n := S0 + (101 - (n_294 + 1)) * 48 + 6 + 6) (by omega) (by omega) ?_
          exact hJ_322 (0 : Int32) σ_62 _ _ _ hm hW hS (lv_sub hl [0, 1, 2, 3, 4, 5, 6, 7, 8, 9] rfl)
        · replace hm := rc_f hm c_80
          refine lv_iconst (v := 1) hx hb dL_isWhole_317 (by decide) ?_
          refine lv_goto (tgt := 322) hx hb dL_isWhole_318 (by decide) ?_
          refine W.widen (k := C0 + (101 - (n_294 + 1)) * 8 + 1 + 1) (n := S0 + (101 - (n_294 + 1)) * 48 + 6 + 6) (by omega) (by omega) ?_
          exact hJ_322 (1 : Int32) σ_62 _ _ _ hm hW hS (lv_sub hl [0, 1, 2, 3, 4, 5, 6, 7, 8, 9] rfl)
  have lp_421 : ∀ (r0 : Nat) (v2 : Int32) (v3 : Int32) (v4 : Int32) (v5 : Int32) (v6 : Int32) (v7 : Int32) (v8 : Int32) (v9 : Int32) (v10 : Int32) (hr0 : sh r0 = 9) (C0 S0 : Nat) (hC0 : C0 ≤ 2477) (hS0 : S0 ≤ 14862) (K : Int32 → rc_S → Option (Int32 × rc_S)) (hKK : ∀ (v11 : Int32) (σ : rc_S) (H : Heap) (locs : List Loc) (ls : Array Slot), K v11 σ = some (r, σ') → rc_W Y sh rf σ H → va_S (rc_A sh s.heap.size) s.heap H locs → lv_has ls 15 [(0, .ref r0), (2, .int v2), (3, .int v3), (4, .int v4), (5, .int v5), (6, .int v6), (7, .int v7), (8, .int v8), (9, .int v9), (10, .int v10)] → W p l e (headSpec (Cond.code yL_isWhole cL_isWhole 15 (some .boolean) :: rc_big) ({ frames := 12, cells := 2540, slots := 15240, locals := 226 } : Room)).room s m (([.ref a0, .int u1] : List Value).toArray) below meth c H locs (C0 + 54) (S0 + 324) (MQ below (va_Qi (fun (r' : Int32) (_ : Unit) => r' = r) (fun _ t => rc_W Y sh rf σ' t.heap) (rc_A sh s.heap.size)) ([.ref a0, .int u1] : List Value).toArray s 2540 15240 (rc_A sh s.heap.size)) (F0 m 493 ls [])) (n : Nat) (hn : n ≤ 9) (v11 : Int32) (σ : rc_S) (H : Heap) (locs : List Loc) (ls : Array Slot), f_L_isWhole_421 rf z r0 v2 v3 v4 v5 v6 v7 v8 v9 v10 K n v11 σ = some (r, σ') → rc_W Y sh rf σ H → va_S (rc_A sh s.heap.size) s.heap H locs → lv_has ls 15 [(0, .ref r0), (2, .int v2), (3, .int v3), (4, .int v4), (5, .int v5), (6, .int v6), (7, .int v7), (8, .int v8), (9, .int v9), (10, .int v10), (11, .int v11)] → W p l e (headSpec (Cond.code yL_isWhole cL_isWhole 15 (some .boolean) :: rc_big) ({ frames := 12, cells := 2540, slots := 15240, locals := 226 } : Room)).room s m (([.ref a0, .int u1] : List Value).toArray) below meth c H locs (C0 + (9 - n) * 6) (S0 + (9 - n) * 36) (MQ below (va_Qi (fun (r' : Int32) (_ : Unit) => r' = r) (fun _ t => rc_W Y sh rf σ' t.heap) (rc_A sh s.heap.size)) ([.ref a0, .int u1] : List Value).toArray s 2540 15240 (rc_A sh s.heap.size)) (F0 m 421 ls []) := by
    intro r0 v2 v3 v4 v5 v6 v7 v8 v9 v10 hr0 C0 S0 hC0 hS0 K hKK n
    induction n with
    | zero =>
      intro hn v11 σ H locs ls hm
      rw [f_L_isWhole_421] at hm
      cases hm
    | succ n_421 ih =>
      intro hn v11 σ H locs ls hm hW hS hl
      rw [f_L_isWhole_421] at hm
      refine lv_iload hx hb dL_isWhole_421 (lv_at hl 10 rfl) ?_
      refine lv_iload_n hx hb dL_isWhole_423 rfl (lv_at hl 1 rfl) ?_
      refine lv_icmp_ge (tgt := 493) hx hb dL_isWhole_424 (by decide) (fun c_95 => ?_) (fun c_95 => ?_)
      · replace hm := rc_t hm c_95
        refine W.widen (k := C0 + 54) (n := S0 + 324) (by omega) (by omega) ?_
        exact hKK v11 σ _ _ _ hm hW hS (lv_sub hl [0, 1, 2, 3, 4, 5, 6, 7, 8, 9] rfl)
      · replace hm := rc_f hm c_95
        refine lv_aload_n hx hb dL_isWhole_427 rfl (lv_at hl 0 rfl) ?_
        refine lv_iload hx hb dL_isWhole_428 (lv_at hl 9 rfl) ?_
        refine lv_iload hx hb dL_isWhole_430 (lv_at hl 10 rfl) ?_
        refine lv_iconst (v := 1) hx hb dL_isWhole_432 (by decide) ?_
        refine lv_isub hx hb dL_isWhole_433 ?_
        obtain ⟨w_85, σ_85, hc_85, hm0⟩ := rc_bd_inv hm
        clear hm
        refine rc_ci hS (vx_runSW (As := [.ref r0, .int v10, .int (v11 - (1 : Int32))]) (rest := []) ⟨hx, hb, hml, hown, hts⟩ (k_L_ranked l hl9 hT z r0 v10 (v11 - (1 : Int32)) hr0 H.size _ _ _ hc_85) (vx_cwSW 3 hts (rc_gS tw_7_5 tw_7_6 tw_1_0 tw_7_7) rfl rfl rfl (by decide +kernel) ⟨Nat.le_of_ble_eq_true rfl, Nat.le_of_ble_eq_true rfl⟩) (rc_preSL hT hW hK hE hN hXz hS [.ref r0, .int v10, .int (v11 - (1 : Int32))]) rfl rfl hl.1 rfl (lv_room (Nat.le_of_ble_eq_true rfl)) dL_isWhole_434 ⟨show C0 + (9 - (n_421 + 1)) * 6 + 1 ≤ 2540 from by omega, show S0 + (9 - (n_421 + 1)) * 36 + 6 ≤ 15240 from by omega⟩) (fun H locs hW hS => ?_)
        have hm := hm0
        clear hm0 hc_85
        refine lv_istore (lv' := [(12, .int w_85), (0, .ref r0), (2, .int v2), (3, .int v3), (4, .int v4), (5, .int v5), (6, .int v6), (7, .int v7), (8, .int v8), (9, .int v9), (10, .int v10), (11, .int v11)]) hx hb dL_isWhole_437 hl (by decide) rfl (fun ls hl => ?_)
        refine lv_aload_n hx hb dL_isWhole_439 rfl (lv_at hl 1 rfl) ?_
        refine lv_iload hx hb dL_isWhole_440 (lv_at hl 10 rfl) ?_
        refine lv_iload hx hb dL_isWhole_442 (lv_at hl 11 rfl) ?_
        obtain ⟨w_86, σ_86, hc_86, hm0⟩ := rc_bd_inv hm
        clear hm
        refine rc_ci hS (vx_runSW (As := [.ref r0, .int v10, .int v11]) (rest := []) ⟨hx, hb, hml, hown, hts⟩ (k_L_ranked l hl9 hT z r0 v10 v11 hr0 H.size _ _ _ hc_86) (vx_cwSW 3 hts (rc_gS tw_7_5 tw_7_6 tw_1_0 tw_7_7) rfl rfl rfl (by decide +kernel) ⟨Nat.le_of_ble_eq_true rfl, Nat.le_of_ble_eq_true rfl⟩) (rc_preSL hT hW hK hE hN hXz hS [.ref r0, .int v10, .int v11]) rfl rfl hl.1 rfl (lv_room (Nat.le_of_ble_eq_true rfl)) dL_isWhole_444 ⟨show C0 + (9 - (n_421 + 1)) * 6 + 1 + 1 ≤ 2540 from by omega, show S0 + (9 - (n_421 + 1)) * 36 + 6 + 6 ≤ 15240 from by omega⟩) (fun H locs hW hS => ?_)
        have hm := hm0
        clear hm0 hc_86
        refine lv_istore (lv' := [(13, .int w_86), (12, .int w_85), (0, .ref r0), (2, .int v2), (3, .int v3), (4, .int v4), (5, .int v5), (6, .int v6), (7, .int v7), (8, .int v8), (9, .int v9), (10, .int v10), (11, .int v11)]) hx hb dL_isWhole_447 hl (by decide) rfl (fun ls hl => ?_)
        refine lv_aload_n hx hb dL_isWhole_449 rfl (lv_at hl 2 rfl) ?_
        refine lv_iload hx hb dL_isWhole_450 (lv_at hl 11 rfl) ?_
        refine lv_iload hx hb dL_isWhole_452 (lv_at hl 1 rfl) ?_
        obtain ⟨w_87, σ_87, hc_87, hm0⟩ := rc_bd_inv hm
        clear hm
        refine rc_ci hS (va_runS (As := [.ref r0, .int v10, .int w_85]) (rest := []) ⟨hx, hb, hml, hown, hts⟩ (k_L_measure l hl9 hT z r0 v10 w_85 hr0 H.size _ _ _ hc_87) (va_cwS 3 hts (rc_gS tw_7_22 tw_7_23 tw_1_0 tw_7_24) rfl rfl rfl (by decide +kernel) ⟨Nat.le_of_ble_eq_true rfl, Nat.le_of_ble_eq_true rfl⟩) (rc_preSL hT hW hK hE hN hXz hS [.ref r0, .int v10, .int w_85]) rfl rfl hl.1 rfl (lv_room (Nat.le_of_ble_eq_true rfl)) dL_isWhole_454 ⟨show C0 + (9 - (n_421 + 1)) * 6 + 1 + 1 + 2 ≤ 2540 from by omega, show S0 + (9 - (n_421 + 1)) * 36 + 6 + 6 + 12 ≤ 15240 from by omega⟩) (fun H locs hW hS => ?_)
        have hm := hm0
        clear hm0 hc_87
        refine lv_aload_n hx hb dL_isWhole_457 rfl (lv_at hl 2 rfl) ?_
        refine lv_iload hx hb dL_isWhole_458 (lv_at hl 11 rfl) ?_
        refine lv_iload hx hb dL_isWhole_460 (lv_at hl 0 rfl) ?_
        obtain ⟨w_88, σ_88, hc_88, hm0⟩ := rc_bd_inv hm
        clear hm
        refine rc_ci hS (va_runS (As := [.ref r0, .int v10, .int w_86]) (rest := [.int w_87]) ⟨hx, hb, hml, hown, hts⟩ (k_L_measure l hl9 hT z r0 v10 w_86 hr0 H.size _ _ _ hc_88) (va_cwS 3 hts (rc_gS tw_7_22 tw_7_23 tw_1_0 tw_7_24) rfl rfl rfl (by decide +kernel) ⟨Nat.le_of_ble_eq_true rfl, Nat.le_of_ble_eq_true rfl⟩) (rc_preSL hT hW hK hE hN hXz hS [.ref r0, .int v10, .int w_86]) rfl rfl hl.1 rfl (lv_room (Nat.le_of_ble_eq_true rfl)) dL_isWhole_462 ⟨show C0 + (9 - (n_421 + 1)) * 6 + 1 + 1 + 2 + 2 ≤ 2540 from by omega, show S0 + (9 - (n_421 + 1)) * 36 + 6 + 6 + 12 + 12 ≤ 15240 from by omega⟩) (fun H locs hW hS => ?_)
        have hm := hm0
        clear hm0 hc_88
        refine lv_isub hx hb dL_isWhole_465 ?_
        refine lv_topi (fun v14_89 ev => ?_)
        replace hm := rc_lt_at hm ev
        clear ev
        refine lv_istore (lv' := [(14, .int v14_89), (13, .int w_86), (12, .int w_85), (0, .ref r0), (2, .int v2), (3, .int v3), (4, .int v4), (5, .int v5), (6, .int v6), (7, .int v7), (8, .int v8), (9, .int v9), (10, .int v10), (11, .int v11)]) hx hb dL_isWhole_466 hl (by decide) rfl (fun ls hl => ?_)
        refine lv_iload hx hb dL_isWhole_468 (lv_at hl 0 rfl) ?_
        refine lv_if_lt (tgt := 485) hx hb dL_isWhole_470 (by decide) (fun c_94 => ?_) (fun c_94 => ?_)
        · replace hm := rc_t hm c_94
          refine lv_iconst (v := 0) hx hb dL_isWhole_485 (by decide) ?_
          exact rc_ezret hx hb hr hlocks hW hS (by omega) (by omega) rfl hm dL_isWhole_486
        · replace hm := rc_f hm c_94
          refine lv_iload hx hb dL_isWhole_473 (lv_at hl 0 rfl) ?_
          refine rc_jn_el hm (fun J => ∀ (σ_90 : rc_S) (H : Heap) (locs : List Loc) (ls : Array Slot), J σ_90 = some (r, σ') → rc_W Y sh rf σ_90 H → va_S (rc_A sh s.heap.size) s.heap H locs → lv_has ls 15 [(0, .ref r0), (2, .int v2), (3, .int v3), (4, .int v4), (5, .int v5), (6, .int v6), (7, .int v7), (8, .int v8), (9, .int v9), (10, .int v10), (11, .int v11)] → W p l e (headSpec (Cond.code yL_isWhole cL_isWhole 15 (some .boolean) :: rc_big) ({ frames := 12, cells := 2540, slots := 15240, locals := 226 } : Room)).room s m (([.ref a0, .int u1] : List Value).toArray) below meth c H locs (C0 + (9 - (n_421 + 1)) * 6 + 1 + 1 + 2 + 2) (S0 + (9 - (n_421 + 1)) * 36 + 6 + 6 + 12 + 12) (MQ below (va_Qi (fun (r' : Int32) (_ : Unit) => r' = r) (fun _ t => rc_W Y sh rf σ' t.heap) (rc_A sh s.heap.size)) ([.ref a0, .int u1] : List Value).toArray s 2540 15240 (rc_A sh s.heap.size)) (F0 m 487 ls [])) ?_ (fun J_487 hJ_487 hm => ?_)
          · intro σ_90 H locs ls hm hW hS hl
            obtain ⟨v11_91, ev⟩ : ∃ y : Int32, y = (v11 + 1) := ⟨_, rfl⟩
            replace hm := rc_lt_at hm ev
            refine lv_iinc (v := v11_91) (lv' := [(11, .int v11_91), (0, .ref r0), (2, .int v2), (3, .int v3), (4, .int v4), (5, .int v5), (6, .int v6), (7, .int v7), (8, .int v8), (9, .int v9), (10, .int v10)]) hx hb dL_isWhole_487 hl (k := 10) rfl (by rw [ev]; rfl) (by decide) rfl (fun ls hl => ?_)
            clear ev
            refine lv_goto (tgt := 421) hx hb dL_isWhole_490 (by decide) ?_
            refine W.widen (k := C0 + (9 - n_421) * 6) (n := S0 + (9 - n_421) * 36) (by omega) (by omega) ?_
            exact ih (by omega) v11_91 σ_90 _ _ _ hm hW hS (lv_sub hl [1, 2, 3, 4, 5, 6, 7, 8, 9, 10, 0] rfl)
          refine lv_if_ne (tgt := 487) hx hb dL_isWhole_475 (by decide) (fun c_93 => ?_) (fun c_93 => ?_)
          · replace hm := rc_f hm c_93
            refine W.widen (k := C0 + (9 - (n_421 + 1)) * 6 + 1 + 1 + 2 + 2) (n := S0 + (9 - (n_421 + 1)) * 36 + 6 + 6 + 12 + 12) (by omega) (by omega) ?_
            exact hJ_487 σ_88 _ _ _ hm hW hS (lv_sub hl [3, 4, 5, 6, 7, 8, 9, 10, 11, 12, 13] rfl)
          · replace hm := rc_t hm c_93
            refine lv_iload hx hb dL_isWhole_478 (lv_at hl 2 rfl) ?_
            refine lv_iload hx hb dL_isWhole_480 (lv_at hl 1 rfl) ?_
            refine lv_icmp_le (tgt := 487) hx hb dL_isWhole_482 (by decide) (fun c_92 => ?_) (fun c_92 => ?_)
            · replace hm := rc_t hm c_92
              refine W.widen (k := C0 + (9 - (n_421 + 1)) * 6 + 1 + 1 + 2 + 2) (n := S0 + (9 - (n_421 + 1)) * 36 + 6 + 6 + 12 + 12) (by omega) (by omega) ?_
              exact hJ_487 σ_88 _ _ _ hm hW hS (lv_sub hl [3, 4, 5, 6, 7, 8, 9, 10, 11, 12, 13] rfl)
            · replace hm := rc_f hm c_92
              refine lv_iconst (v := 0) hx hb dL_isWhole_485 (by decide) ?_
              exact rc_ezret hx hb hr hlocks hW hS (by omega) (by omega) rfl hm dL_isWhole_486
  have lp_412 : ∀ (r0 : Nat) (v2 : Int32) (v3 : Int32) (v4 : Int32) (v5 : Int32) (v6 : Int32) (v7 : Int32) (v8 : Int32) (v9 : Int32) (hr0 : sh r0 = 9) (C0 S0 : Nat) (hC0 : C0 ≤ 2261) (hS0 : S0 ≤ 13566) (K : Int32 → rc_S → Option (Int32 × rc_S)) (hKK : ∀ (v10 : Int32) (σ : rc_S) (H : Heap) (locs : List Loc) (ls : Array Slot), K v10 σ = some (r, σ') → rc_W Y sh rf σ H → va_S (rc_A sh s.heap.size) s.heap H locs → lv_has ls 15 [(0, .ref r0), (2, .int v2), (3, .int v3), (4, .int v4), (5, .int v5), (6, .int v6), (7, .int v7), (8, .int v8), (9, .int v9)] → W p l e (headSpec (Cond.code yL_isWhole cL_isWhole 15 (some .boolean) :: rc_big) ({ frames := 12, cells := 2540, slots := 15240, locals := 226 } : Room)).room s m (([.ref a0, .int u1] : List Value).toArray) below meth c H locs (C0 + 270) (S0 + 1620) (MQ below (va_Qi (fun (r' : Int32) (_ : Unit) => r' = r) (fun _ t => rc_W Y sh rf σ' t.heap) (rc_A sh s.heap.size)) ([.ref a0, .int u1] : List Value).toArray s 2540 15240 (rc_A sh s.heap.size)) (F0 m 499 ls [])) (n : Nat) (hn : n ≤ 5) (v10 : Int32) (σ : rc_S) (H : Heap) (locs : List Loc) (ls : Array Slot), f_L_isWhole_412 rf z r0 v2 v3 v4 v5 v6 v7 v8 v9 K n v10 σ = some (r, σ') → rc_W Y sh rf σ H → va_S (rc_A sh s.heap.size) s.heap H locs → lv_has ls 15 [(0, .ref r0), (2, .int v2), (3, .int v3), (4, .int v4), (5, .int v5), (6, .int v6), (7, .int v7), (8, .int v8), (9, .int v9), (10, .int v10)] → W p l e (headSpec (Cond.code yL_isWhole cL_isWhole 15 (some .boolean) :: rc_big) ({ frames := 12, cells := 2540, slots := 15240, locals := 226 } : Room)).room s m (([.ref a0, .int u1] : List Value).toArray) below meth c H locs (C0 + (5 - n) * 54) (S0 + (5 - n) * 324) (MQ below (va_Qi (fun (r' : Int32) (_ : Unit) => r' = r) (fun _ t => rc_W Y sh rf σ' t.heap) (rc_A sh s.heap.size)) ([.ref a0, .int u1] : List Value).toArray s 2540 15240 (rc_A sh s.heap.size)) (F0 m 412 ls []) := by
    intro r0 v2 v3 v4 v5 v6 v7 v8 v9 hr0 C0 S0 hC0 hS0 K hKK n
    induction n with
    | zero =>
      intro hn v10 σ H locs ls hm
      rw [f_L_isWhole_412] at hm
      cases hm
    | succ n_412 ih =>
      intro hn v10 σ H locs ls hm hW hS hl
      rw [f_L_isWhole_412] at hm
      refine lv_iload hx hb dL_isWhole_412 (lv_at hl 9 rfl) ?_
      refine lv_iconst (v := 4) hx hb dL_isWhole_414 (by decide) ?_
      refine lv_icmp_ge (tgt := 499) hx hb dL_isWhole_415 (by decide) (fun c_99 => ?_) (fun c_99 => ?_)
      · replace hm := rc_t hm c_99
        refine W.widen (k := C0 + 270) (n := S0 + 1620) (by omega) (by omega) ?_
        exact hKK v10 σ _ _ _ hm hW hS (lv_sub hl [0, 1, 2, 3, 4, 5, 6, 7, 8] rfl)
      · replace hm := rc_f hm c_99
        refine lv_iconst (v := 1) hx hb dL_isWhole_418 (by decide) ?_
        refine lv_istore (lv' := [(11, .int (1 : Int32)), (0, .ref r0), (2, .int v2), (3, .int v3), (4, .int v4), (5, .int v5), (6, .int v6), (7, .int v7), (8, .int v8), (9, .int v9), (10, .int v10)]) hx hb dL_isWhole_419 hl (by decide) rfl (fun ls hl => ?_)
        refine W.widen (k := C0 + (5 - (n_412 + 1)) * 54 + (9 - 9) * 6) (n := S0 + (5 - (n_412 + 1)) * 324 + (9 - 9) * 36) (by omega) (by omega) ?_
        refine lp_421 r0 v2 v3 v4 v5 v6 v7 v8 v9 v10 hr0 (C0 + (5 - (n_412 + 1)) * 54) (S0 + (5 - (n_412 + 1)) * 324) (by omega) (by omega) _ (fun v11_96 σ_97 H locs ls hm hW hS hl => ?_) 9 (Nat.le_refl _) (1 : Int32) σ _ _ _ hm hW hS (lv_sub hl [1, 2, 3, 4, 5, 6, 7, 8, 9, 10, 0] rfl)
        obtain ⟨v10_98, ev⟩ : ∃ y : Int32, y = (v10 + 1) := ⟨_, rfl⟩
        replace hm := rc_lt_at hm ev
        refine lv_iinc (v := v10_98) (lv' := [(10, .int v10_98), (0, .ref r0), (2, .int v2), (3, .int v3), (4, .int v4), (5, .int v5), (6, .int v6), (7, .int v7), (8, .int v8), (9, .int v9)]) hx hb dL_isWhole_493 hl (k := 9) rfl (by rw [ev]; rfl) (by decide) rfl (fun ls hl => ?_)
        clear ev
        refine lv_goto (tgt := 412) hx hb dL_isWhole_496 (by decide) ?_
        refine W.widen (k := C0 + (5 - n_412) * 54) (n := S0 + (5 - n_412) * 324) (by omega) (by omega) ?_
        exact ih (by omega) v10_98 σ_97 _ _ _ hm hW hS (lv_sub hl [1, 2, 3, 4, 5, 6, 7, 8, 9, 0] rfl)
  unfold f_L_isWhole at hm
  refine lv_aload_n hx hb dL_isWhole_0 rfl (lv_at hl 0 rfl) ?_
  refine lv_iconst (v := 0) hx hb dL_isWhole_1 (by decide) ?_
  obtain ⟨w_1, σ_1, hc_1, hm0⟩ := rc_bd_inv hm
  clear hm
  refine rc_ci hS (vx_runSW (As := [.ref a0, .int (0 : Int32)]) (rest := []) ⟨hx, hb, hml, hown, hts⟩ (k_L_account l hl9 hT z a0 (0 : Int32) h0 s.heap.size _ _ _ hc_1) (vx_cwSW 2 hts (rc_gS tw_3_118 tw_3_119 tw_1_0 tw_3_120) rfl rfl rfl (by decide +kernel) ⟨Nat.le_of_ble_eq_true rfl, Nat.le_of_ble_eq_true rfl⟩) (rc_preSL hT hW hK hE hN hXz hS [.ref a0, .int (0 : Int32)]) rfl rfl hl.1 rfl (lv_room (Nat.le_of_ble_eq_true rfl)) dL_isWhole_2 ⟨show 0 + 1 ≤ 2540 from by omega, show 0 + 6 ≤ 15240 from by omega⟩) (fun H locs hW hS => ?_)
  have hm := hm0
  clear hm0 hc_1
  refine lv_istore_n (lv' := [(2, .int w_1), (0, .ref a0), (1, .int u1)]) hx hb dL_isWhole_5 rfl hl (by decide) rfl (fun ls hl => ?_)
  refine lv_iconst (v := 0) hx hb dL_isWhole_6 (by decide) ?_
  refine lv_istore_n (lv' := [(3, .int (0 : Int32)), (2, .int w_1), (0, .ref a0), (1, .int u1)]) hx hb dL_isWhole_7 rfl hl (by decide) rfl (fun ls hl => ?_)
  refine lv_iconst (v := 0) hx hb dL_isWhole_8 (by decide) ?_
  refine lv_istore (lv' := [(4, .int (0 : Int32)), (3, .int (0 : Int32)), (2, .int w_1), (0, .ref a0), (1, .int u1)]) hx hb dL_isWhole_9 hl (by decide) rfl (fun ls hl => ?_)
  refine lv_iconst (v := 0) hx hb dL_isWhole_11 (by decide) ?_
  refine lv_istore (lv' := [(5, .int (0 : Int32)), (4, .int (0 : Int32)), (3, .int (0 : Int32)), (2, .int w_1), (0, .ref a0), (1, .int u1)]) hx hb dL_isWhole_12 hl (by decide) rfl (fun ls hl => ?_)
  refine lv_iconst (v := 0) hx hb dL_isWhole_14 (by decide) ?_
  refine lv_istore (lv' := [(6, .int (0 : Int32)), (5, .int (0 : Int32)), (4, .int (0 : Int32)), (3, .int (0 : Int32)), (2, .int w_1), (0, .ref a0), (1, .int u1)]) hx hb dL_isWhole_15 hl (by decide) rfl (fun ls hl => ?_)
  refine lv_iconst (v := 0) hx hb dL_isWhole_17 (by decide) ?_
  refine lv_istore (lv' := [(7, .int (0 : Int32)), (6, .int (0 : Int32)), (5, .int (0 : Int32)), (4, .int (0 : Int32)), (3, .int (0 : Int32)), (2, .int w_1), (0, .ref a0), (1, .int u1)]) hx hb dL_isWhole_18 hl (by decide) rfl (fun ls hl => ?_)
  refine W.widen (k := 0 + 1 + (9 - 9) * 158) (n := 0 + 6 + (9 - 9) * 948) (by omega) (by omega) ?_
  refine lp_20 a0 u1 w_1 h0 (0 + 1) (0 + 6) (by omega) (by omega) _ (fun v3_38 v4_39 v5_40 v6_41 v7_42 σ_43 H locs ls hm hW hS hl => ?_) 9 (Nat.le_refl _) (0 : Int32) (0 : Int32) (0 : Int32) (0 : Int32) (0 : Int32) σ_1 _ _ _ hm hW hS (lv_sub hl [6, 7, 5, 4, 3, 2, 1, 0] rfl)
  refine lv_iconst (v := 0) hx hb dL_isWhole_202 (by decide) ?_
  refine lv_istore (lv' := [(7, .int (0 : Int32)), (0, .ref a0), (2, .int w_1), (3, .int v3_38), (4, .int v4_39), (5, .int v5_40), (6, .int v6_41)]) hx hb dL_isWhole_203 hl (by decide) rfl (fun ls hl => ?_)
  refine lv_iconst (v := 0) hx hb dL_isWhole_205 (by decide) ?_
  refine lv_istore (lv' := [(8, .int (0 : Int32)), (7, .int (0 : Int32)), (0, .ref a0), (2, .int w_1), (3, .int v3_38), (4, .int v4_39), (5, .int v5_40), (6, .int v6_41)]) hx hb dL_isWhole_206 hl (by decide) rfl (fun ls hl => ?_)
  refine lv_iconst (v := 0) hx hb dL_isWhole_208 (by decide) ?_
  refine lv_istore (lv' := [(9, .int (0 : Int32)), (8, .int (0 : Int32)), (7, .int (0 : Int32)), (0, .ref a0), (2, .int w_1), (3, .int v3_38), (4, .int v4_39), (5, .int v5_40), (6, .int v6_41)]) hx hb dL_isWhole_209 hl (by decide) rfl (fun ls hl => ?_)
  refine W.widen (k := 0 + 1 + 1422 + (5 - 5) * 6) (n := 0 + 6 + 8532 + (5 - 5) * 36) (by omega) (by omega) ?_
  refine lp_211 a0 w_1 v3_38 v4_39 v5_40 v6_41 h0 (0 + 1 + 1422) (0 + 6 + 8532) (by omega) (by omega) _ (fun v7_57 v8_58 v9_59 σ_60 H locs ls hm hW hS hl => ?_) 5 (Nat.le_refl _) (0 : Int32) (0 : Int32) (0 : Int32) σ_43 _ _ _ hm hW hS (lv_sub hl [3, 4, 5, 6, 7, 8, 2, 1, 0] rfl)
  refine lv_iconst (v := 0) hx hb dL_isWhole_288 (by decide) ?_
  refine lv_istore (lv' := [(9, .int (0 : Int32)), (0, .ref a0), (2, .int w_1), (3, .int v3_38), (4, .int v4_39), (5, .int v5_40), (6, .int v6_41), (7, .int v7_57), (8, .int v8_58)]) hx hb dL_isWhole_289 hl (by decide) rfl (fun ls hl => ?_)
  refine lv_iconst (v := 0) hx hb dL_isWhole_291 (by decide) ?_
  refine lv_istore (lv' := [(10, .int (0 : Int32)), (9, .int (0 : Int32)), (0, .ref a0), (2, .int w_1), (3, .int v3_38), (4, .int v4_39), (5, .int v5_40), (6, .int v6_41), (7, .int v7_57), (8, .int v8_58)]) hx hb dL_isWhole_292 hl (by decide) rfl (fun ls hl => ?_)
  refine W.widen (k := 0 + 1 + 1422 + 30 + (101 - 101) * 8) (n := 0 + 6 + 8532 + 180 + (101 - 101) * 48) (by omega) (by omega) ?_
  refine lp_294 a0 w_1 v3_38 v4_39 v5_40 v6_41 v7_57 v8_58 h0 (0 + 1 + 1422 + 30) (0 + 6 + 8532 + 180) (by omega) (by omega) _ (fun v9_82 v10_83 σ_84 H locs ls hm hW hS hl => ?_) 101 (Nat.le_refl _) (0 : Int32) (0 : Int32) σ_60 _ _ _ hm hW hS (lv_sub hl [2, 3, 4, 5, 6, 7, 8, 9, 1, 0] rfl)
  refine lv_iconst (v := 0) hx hb dL_isWhole_409 (by decide) ?_
  refine lv_istore (lv' := [(10, .int (0 : Int32)), (0, .ref a0), (2, .int w_1), (3, .int v3_38), (4, .int v4_39), (5, .int v5_40), (6, .int v6_41), (7, .int v7_57), (8, .int v8_58), (9, .int v9_82)]) hx hb dL_isWhole_410 hl (by decide) rfl (fun ls hl => ?_)
  refine W.widen (k := 0 + 1 + 1422 + 30 + 808 + (5 - 5) * 54) (n := 0 + 6 + 8532 + 180 + 4848 + (5 - 5) * 324) (by omega) (by omega) ?_
  refine lp_412 a0 w_1 v3_38 v4_39 v5_40 v6_41 v7_57 v8_58 v9_82 h0 (0 + 1 + 1422 + 30 + 808) (0 + 6 + 8532 + 180 + 4848) (by omega) (by omega) _ (fun v10_100 σ_101 H locs ls hm hW hS hl => ?_) 5 (Nat.le_refl _) (0 : Int32) σ_84 _ _ _ hm hW hS (lv_sub hl [1, 2, 3, 4, 5, 6, 7, 8, 9, 0] rfl)
  refine lv_aload_n hx hb dL_isWhole_499 rfl (lv_at hl 0 rfl) ?_
  refine lv_iconst (v := 1) hx hb dL_isWhole_500 (by decide) ?_
  obtain ⟨w_102, σ_102, hc_102, hm0⟩ := rc_bd_inv hm
  clear hm
  refine rc_ci hS (vx_runSW (As := [.ref a0, .int (1 : Int32)]) (rest := []) ⟨hx, hb, hml, hown, hts⟩ (k_L_account l hl9 hT z a0 (1 : Int32) h0 H.size _ _ _ hc_102) (vx_cwSW 2 hts (rc_gS tw_3_118 tw_3_119 tw_1_0 tw_3_120) rfl rfl rfl (by decide +kernel) ⟨Nat.le_of_ble_eq_true rfl, Nat.le_of_ble_eq_true rfl⟩) (rc_preSL hT hW hK hE hN hXz hS [.ref a0, .int (1 : Int32)]) rfl rfl hl.1 rfl (lv_room (Nat.le_of_ble_eq_true rfl)) dL_isWhole_501 ⟨show 0 + 1 + 1422 + 30 + 808 + 270 + 1 ≤ 2540 from by omega, show 0 + 6 + 8532 + 180 + 4848 + 1620 + 6 ≤ 15240 from by omega⟩) (fun H locs hW hS => ?_)
  have hm := hm0
  clear hm0 hc_102
  refine lv_iload_n hx hb dL_isWhole_504 rfl (lv_at hl 2 rfl) ?_
  refine rc_jn_el hm (fun J => ∀ (w_571_103 : Int32) (σ_104 : rc_S) (H : Heap) (locs : List Loc) (ls : Array Slot), J w_571_103 σ_104 = some (r, σ') → rc_W Y sh rf σ_104 H → va_S (rc_A sh s.heap.size) s.heap H locs → lv_has ls 15 [(0, .ref a0), (2, .int w_1), (3, .int v3_38), (4, .int v4_39), (5, .int v5_40), (6, .int v6_41)] → W p l e (headSpec (Cond.code yL_isWhole cL_isWhole 15 (some .boolean) :: rc_big) ({ frames := 12, cells := 2540, slots := 15240, locals := 226 } : Room)).room s m (([.ref a0, .int u1] : List Value).toArray) below meth c H locs (0 + 1 + 1422 + 30 + 808 + 270 + 1 + 3) (0 + 6 + 8532 + 180 + 4848 + 1620 + 6 + 18) (MQ below (va_Qi (fun (r' : Int32) (_ : Unit) => r' = r) (fun _ t => rc_W Y sh rf σ' t.heap) (rc_A sh s.heap.size)) ([.ref a0, .int u1] : List Value).toArray s 2540 15240 (rc_A sh s.heap.size)) (F0 m 571 ls [.int w_571_103])) ?_ (fun J_571 hJ_571 hm => ?_)
  · intro w_571_103 σ_104 H locs ls hm hW hS hl
    refine lv_istore (lv' := [(10, .int w_571_103), (0, .ref a0), (2, .int w_1), (3, .int v3_38), (4, .int v4_39), (5, .int v5_40), (6, .int v6_41)]) hx hb dL_isWhole_571 hl (by decide) rfl (fun ls hl => ?_)
    refine lv_aload_n hx hb dL_isWhole_573 rfl (lv_at hl 1 rfl) ?_
    obtain ⟨w_105, σ_105, hc_105, hm0⟩ := rc_bd_inv hm
    clear hm
    refine rc_cd hS (vx_runSW (As := [.ref a0]) (rest := []) ⟨hx, hb, hml, hown, hts⟩ (k_L_meanNote l hl9 hT z a0 h0 H.size _ _ _ hc_105) (vx_cwSW 1 hts (rc_gS tw_7_29 tw_7_30 tw_1_0 tw_7_31) rfl rfl rfl (by decide +kernel) ⟨Nat.le_of_ble_eq_true rfl, Nat.le_of_ble_eq_true rfl⟩) (rc_preSL hT hW hK hE hN hXz hS [.ref a0]) rfl rfl hl.1 rfl (lv_room (Nat.le_of_ble_eq_true rfl)) dL_isWhole_574 ⟨show 0 + 1 + 1422 + 30 + 808 + 270 + 1 + 3 + 1 ≤ 2540 from by omega, show 0 + 6 + 8532 + 180 + 4848 + 1620 + 6 + 18 + 6 ≤ 15240 from by omega⟩) (fun H locs hW hS => ?_)
    have hm := hm0
    clear hm0 hc_105
    refine lv_iload hx hb dL_isWhole_577 (lv_at hl 6 rfl) ?_
    refine rc_jn_el hm (fun J => ∀ (w_595_106 : UInt64) (σ_107 : rc_S) (H : Heap) (locs : List Loc) (ls : Array Slot), J w_595_106 σ_107 = some (r, σ') → rc_W Y sh rf σ_107 H → va_S (rc_A sh s.heap.size) s.heap H locs → lv_has ls 15 [(10, .int w_571_103), (0, .ref a0), (2, .int w_1), (3, .int v3_38), (4, .int v4_39)] → W p l e (headSpec (Cond.code yL_isWhole cL_isWhole 15 (some .boolean) :: rc_big) ({ frames := 12, cells := 2540, slots := 15240, locals := 226 } : Room)).room s m (([.ref a0, .int u1] : List Value).toArray) below meth c H locs (0 + 1 + 1422 + 30 + 808 + 270 + 1 + 3 + 1) (0 + 6 + 8532 + 180 + 4848 + 1620 + 6 + 18 + 6) (MQ below (va_Qi (fun (r' : Int32) (_ : Unit) => r' = r) (fun _ t => rc_W Y sh rf σ' t.heap) (rc_A sh s.heap.size)) ([.ref a0, .int u1] : List Value).toArray s 2540 15240 (rc_A sh s.heap.size)) (F0 m 595 ls [.double w_595_106, .double w_105])) ?_ (fun J_595 hJ_595 hm => ?_)
    · intro w_595_106 σ_107 H locs ls hm hW hS hl
      refine lv_dcmp hx hb dL_isWhole_595 ?_
      refine rc_jn_el hm (fun J => ∀ (w_627_108 : Int32) (σ_109 : rc_S) (H : Heap) (locs : List Loc) (ls : Array Slot), J w_627_108 σ_109 = some (r, σ') → rc_W Y sh rf σ_109 H → va_S (rc_A sh s.heap.size) s.heap H locs → lv_has ls 15 [(10, .int w_571_103), (0, .ref a0), (2, .int w_1)] → W p l e (headSpec (Cond.code yL_isWhole cL_isWhole 15 (some .boolean) :: rc_big) ({ frames := 12, cells := 2540, slots := 15240, locals := 226 } : Room)).room s m (([.ref a0, .int u1] : List Value).toArray) below meth c H locs (0 + 1 + 1422 + 30 + 808 + 270 + 1 + 3 + 1 + 1) (0 + 6 + 8532 + 180 + 4848 + 1620 + 6 + 18 + 6 + 6) (MQ below (va_Qi (fun (r' : Int32) (_ : Unit) => r' = r) (fun _ t => rc_W Y sh rf σ' t.heap) (rc_A sh s.heap.size)) ([.ref a0, .int u1] : List Value).toArray s 2540 15240 (rc_A sh s.heap.size)) (F0 m 627 ls [.int w_627_108])) ?_ (fun J_627 hJ_627 hm => ?_)
      · intro w_627_108 σ_109 H locs ls hm hW hS hl
        refine lv_istore (lv' := [(11, .int w_627_108), (10, .int w_571_103), (0, .ref a0), (2, .int w_1)]) hx hb dL_isWhole_627 hl (by decide) rfl (fun ls hl => ?_)
        refine lv_iload hx hb dL_isWhole_629 (lv_at hl 1 rfl) ?_
        refine lv_if_eq (tgt := 668) hx hb dL_isWhole_631 (by decide) (fun c_116 => ?_) (fun c_116 => ?_)
        · replace hm := rc_t hm c_116
          refine lv_iconst (v := 0) hx hb dL_isWhole_668 (by decide) ?_
          exact rc_ezret hx hb hr hlocks hW hS (by omega) (by omega) rfl hm dL_isWhole_669
        · replace hm := rc_f hm c_116
          refine lv_iload hx hb dL_isWhole_634 (lv_at hl 0 rfl) ?_
          refine lv_if_eq (tgt := 668) hx hb dL_isWhole_636 (by decide) (fun c_115 => ?_) (fun c_115 => ?_)
          · replace hm := rc_t hm c_115
            refine lv_iconst (v := 0) hx hb dL_isWhole_668 (by decide) ?_
            exact rc_ezret hx hb hr hlocks hW hS (by omega) (by omega) rfl hm dL_isWhole_669
          · replace hm := rc_f hm c_115
            refine lv_aload_n hx hb dL_isWhole_639 rfl (lv_at hl 2 rfl) ?_
            refine lv_iconst (v := 2) hx hb dL_isWhole_640 (by decide) ?_
            refine lv_iload_n hx hb dL_isWhole_641 rfl (lv_at hl 3 rfl) ?_
            obtain ⟨w_110, σ_110, hc_110, hm0⟩ := rc_bd_inv hm
            clear hm
            refine rc_ci hS (vx_runSW (As := [.ref a0, .int (2 : Int32), .int w_1]) (rest := []) ⟨hx, hb, hml, hown, hts⟩ (k_L_ranked l hl9 hT z a0 (2 : Int32) w_1 h0 H.size _ _ _ hc_110) (vx_cwSW 3 hts (rc_gS tw_7_5 tw_7_6 tw_1_0 tw_7_7) rfl rfl rfl (by decide +kernel) ⟨Nat.le_of_ble_eq_true rfl, Nat.le_of_ble_eq_true rfl⟩) (rc_preSL hT hW hK hE hN hXz hS [.ref a0, .int (2 : Int32), .int w_1]) rfl rfl hl.1 rfl (lv_room (Nat.le_of_ble_eq_true rfl)) dL_isWhole_642 ⟨show 0 + 1 + 1422 + 30 + 808 + 270 + 1 + 3 + 1 + 1 + 1 ≤ 2540 from by omega, show 0 + 6 + 8532 + 180 + 4848 + 1620 + 6 + 18 + 6 + 6 + 6 ≤ 15240 from by omega⟩) (fun H locs hW hS => ?_)
            have hm := hm0
            clear hm0 hc_110
            refine lv_bipush (v := (-75)) hx hb dL_isWhole_645 (by decide) ?_
            refine lv_icmp_ne (tgt := 668) hx hb dL_isWhole_647 (by decide) (fun c_114 => ?_) (fun c_114 => ?_)
            · replace hm := rc_f hm c_114
              refine lv_iconst (v := 0) hx hb dL_isWhole_668 (by decide) ?_
              exact rc_ezret hx hb hr hlocks hW hS (by omega) (by omega) rfl hm dL_isWhole_669
            · replace hm := rc_t hm c_114
              refine lv_aload_n hx hb dL_isWhole_650 rfl (lv_at hl 2 rfl) ?_
              refine lv_aload_n hx hb dL_isWhole_651 rfl (lv_at hl 2 rfl) ?_
              refine lv_iconst (v := 5) hx hb dL_isWhole_652 (by decide) ?_
              obtain ⟨w_111, σ_111, hc_111, hm0⟩ := rc_bd_inv hm
              clear hm
              refine rc_ci hS (vx_runSW (As := [.ref a0, .int (5 : Int32)]) (rest := [.ref a0]) ⟨hx, hb, hml, hown, hts⟩ (k_L_account l hl9 hT z a0 (5 : Int32) h0 H.size _ _ _ hc_111) (vx_cwSW 2 hts (rc_gS tw_3_118 tw_3_119 tw_1_0 tw_3_120) rfl rfl rfl (by decide +kernel) ⟨Nat.le_of_ble_eq_true rfl, Nat.le_of_ble_eq_true rfl⟩) (rc_preSL hT hW hK hE hN hXz hS [.ref a0, .int (5 : Int32)]) rfl rfl hl.1 rfl (lv_room (Nat.le_of_ble_eq_true rfl)) dL_isWhole_653 ⟨show 0 + 1 + 1422 + 30 + 808 + 270 + 1 + 3 + 1 + 1 + 1 + 1 ≤ 2540 from by omega, show 0 + 6 + 8532 + 180 + 4848 + 1620 + 6 + 18 + 6 + 6 + 6 + 6 ≤ 15240 from by omega⟩) (fun H locs hW hS => ?_)
              have hm := hm0
              clear hm0 hc_111
              obtain ⟨w_112, σ_112, hc_112, hm0⟩ := rc_bd_inv hm
              clear hm
              refine rc_ci hS (vx_runSW (As := [.ref a0, .int w_111]) (rest := []) ⟨hx, hb, hml, hown, hts⟩ (k_L_vintage l hl9 hT z a0 w_111 h0 H.size _ _ _ hc_112) (vx_cwSW 2 hts (rc_gS tw_6_234 tw_6_235 tw_1_0 tw_6_236) rfl rfl rfl (by decide +kernel) ⟨Nat.le_of_ble_eq_true rfl, Nat.le_of_ble_eq_true rfl⟩) (rc_preSL hT hW hK hE hN hXz hS [.ref a0, .int w_111]) rfl rfl hl.1 rfl (lv_room (Nat.le_of_ble_eq_true rfl)) dL_isWhole_656 ⟨show 0 + 1 + 1422 + 30 + 808 + 270 + 1 + 3 + 1 + 1 + 1 + 1 + 1 ≤ 2540 from by omega, show 0 + 6 + 8532 + 180 + 4848 + 1620 + 6 + 18 + 6 + 6 + 6 + 6 + 6 ≤ 15240 from by omega⟩) (fun H locs hW hS => ?_)
              have hm := hm0
              clear hm0 hc_112
              refine lv_bipush (v := (-75)) hx hb dL_isWhole_659 (by decide) ?_
              refine lv_icmp_ne (tgt := 668) hx hb dL_isWhole_661 (by decide) (fun c_113 => ?_) (fun c_113 => ?_)
              · replace hm := rc_f hm c_113
                refine lv_iconst (v := 0) hx hb dL_isWhole_668 (by decide) ?_
                exact rc_ezret hx hb hr hlocks hW hS (by omega) (by omega) rfl hm dL_isWhole_669
              · replace hm := rc_t hm c_113
                refine lv_iconst (v := 1) hx hb dL_isWhole_664 (by decide) ?_
                refine lv_goto (tgt := 669) hx hb dL_isWhole_665 (by decide) ?_
                exact rc_ezret hx hb hr hlocks hW hS (by omega) (by omega) rfl hm dL_isWhole_669
      refine lv_if_ne (tgt := 626) hx hb dL_isWhole_596 (by decide) (fun c_123 => ?_) (fun c_123 => ?_)
      · replace hm := rc_f hm c_123
        refine lv_iconst (v := 0) hx hb dL_isWhole_626 (by decide) ?_
        refine W.widen (k := 0 + 1 + 1422 + 30 + 808 + 270 + 1 + 3 + 1 + 1) (n := 0 + 6 + 8532 + 180 + 4848 + 1620 + 6 + 18 + 6 + 6) (by omega) (by omega) ?_
        exact hJ_627 (0 : Int32) σ_107 _ _ _ hm hW hS (lv_sub hl [0, 1, 2] rfl)
      · replace hm := rc_t hm c_123
        refine lv_aload_n hx hb dL_isWhole_599 rfl (lv_at hl 1 rfl) ?_
        obtain ⟨w_117, σ_117, hc_117, hm0⟩ := rc_bd_inv hm
        clear hm
        refine rc_cf hS (vx_runSW (As := [.ref a0]) (rest := []) ⟨hx, hb, hml, hown, hts⟩ (k_L_hailShare l hl9 hT z a0 h0 H.size _ _ _ hc_117) (vx_cwSW 1 hts (rc_gS tw_7_56 tw_7_57 tw_1_0 tw_7_58) rfl rfl rfl (by decide +kernel) ⟨Nat.le_of_ble_eq_true rfl, Nat.le_of_ble_eq_true rfl⟩) (rc_preSL hT hW hK hE hN hXz hS [.ref a0]) rfl rfl hl.1 rfl (lv_room (Nat.le_of_ble_eq_true rfl)) dL_isWhole_600 ⟨show 0 + 1 + 1422 + 30 + 808 + 270 + 1 + 3 + 1 + 1 ≤ 2540 from by omega, show 0 + 6 + 8532 + 180 + 4848 + 1620 + 6 + 18 + 6 + 6 ≤ 15240 from by omega⟩) (fun H locs hW hS => ?_)
        have hm := hm0
        clear hm0 hc_117
        refine lv_iload_n hx hb dL_isWhole_603 rfl (lv_at hl 3 rfl) ?_
        refine rc_jn_el hm (fun J => ∀ (w_618_118 : UInt32) (σ_119 : rc_S) (H : Heap) (locs : List Loc) (ls : Array Slot), J w_618_118 σ_119 = some (r, σ') → rc_W Y sh rf σ_119 H → va_S (rc_A sh s.heap.size) s.heap H locs → lv_has ls 15 [(10, .int w_571_103), (0, .ref a0), (2, .int w_1)] → W p l e (headSpec (Cond.code yL_isWhole cL_isWhole 15 (some .boolean) :: rc_big) ({ frames := 12, cells := 2540, slots := 15240, locals := 226 } : Room)).room s m (([.ref a0, .int u1] : List Value).toArray) below meth c H locs (0 + 1 + 1422 + 30 + 808 + 270 + 1 + 3 + 1 + 1) (0 + 6 + 8532 + 180 + 4848 + 1620 + 6 + 18 + 6 + 6) (MQ below (va_Qi (fun (r' : Int32) (_ : Unit) => r' = r) (fun _ t => rc_W Y sh rf σ' t.heap) (rc_A sh s.heap.size)) ([.ref a0, .int u1] : List Value).toArray s 2540 15240 (rc_A sh s.heap.size)) (F0 m 618 ls [.float w_618_118, .float w_117])) ?_ (fun J_618 hJ_618 hm => ?_)
        · intro w_618_118 σ_119 H locs ls hm hW hS hl
          refine lv_fcmp hx hb dL_isWhole_618 ?_
          refine lv_if_ne (tgt := 626) hx hb dL_isWhole_619 (by decide) (fun c_120 => ?_) (fun c_120 => ?_)
          · replace hm := rc_f hm c_120
            refine lv_iconst (v := 0) hx hb dL_isWhole_626 (by decide) ?_
            refine W.widen (k := 0 + 1 + 1422 + 30 + 808 + 270 + 1 + 3 + 1 + 1) (n := 0 + 6 + 8532 + 180 + 4848 + 1620 + 6 + 18 + 6 + 6) (by omega) (by omega) ?_
            exact hJ_627 (0 : Int32) σ_119 _ _ _ hm hW hS (lv_sub hl [0, 1, 2] rfl)
          · replace hm := rc_t hm c_120
            refine lv_iconst (v := 1) hx hb dL_isWhole_622 (by decide) ?_
            refine lv_goto (tgt := 627) hx hb dL_isWhole_623 (by decide) ?_
            refine W.widen (k := 0 + 1 + 1422 + 30 + 808 + 270 + 1 + 3 + 1 + 1) (n := 0 + 6 + 8532 + 180 + 4848 + 1620 + 6 + 18 + 6 + 6) (by omega) (by omega) ?_
            exact hJ_627 (1 : Int32) σ_119 _ _ _ hm hW hS (lv_sub hl [0, 1, 2] rfl)
        refine lv_if_ne (tgt := 612) hx hb dL_isWhole_604 (by decide) (fun c_122 => ?_) (fun c_122 => ?_)
        · replace hm := rc_f hm c_122
          refine lv_iload hx hb dL_isWhole_612 (lv_at hl 4 rfl) ?_
          refine lv_i2f hx hb dL_isWhole_614 ?_
          refine lv_iload_n hx hb dL_isWhole_615 rfl (lv_at hl 3 rfl) ?_
          refine lv_i2f hx hb dL_isWhole_616 ?_
          have hz_121 : vf_n32 (FP.fdiv (FP.i2f v4_39) (FP.i2f v3_38)) := (rc_dc hm).1
          replace hm := (rc_dc hm).2
          refine lv_fdiv hx hb dL_isWhole_617 hz_121 ?_
          refine W.widen (k := 0 + 1 + 1422 + 30 + 808 + 270 + 1 + 3 + 1 + 1) (n := 0 + 6 + 8532 + 180 + 4848 + 1620 + 6 + 18 + 6 + 6) (by omega) (by omega) ?_
          exact hJ_618 (FP.fdiv (FP.i2f v4_39) (FP.i2f v3_38)) σ_117 _ _ _ hm hW hS (lv_sub hl [0, 1, 2] rfl)
        · replace hm := rc_t hm c_122
          refine lv_ldcf hx hb hown (hts _ tw_7_67) dL_isWhole_607 ?_
          refine lv_goto (tgt := 618) hx hb dL_isWhole_609 (by decide) ?_
          refine W.widen (k := 0 + 1 + 1422 + 30 + 808 + 270 + 1 + 3 + 1 + 1) (n := 0 + 6 + 8532 + 180 + 4848 + 1620 + 6 + 18 + 6 + 6) (by omega) (by omega) ?_
          exact hJ_618 (3264479232 : UInt32) σ_117 _ _ _ hm hW hS (lv_sub hl [0, 1, 2] rfl)
    refine lv_if_ne (tgt := 588) hx hb dL_isWhole_579 (by decide) (fun c_125 => ?_) (fun c_125 => ?_)
    · replace hm := rc_f hm c_125
      refine lv_iload hx hb dL_isWhole_588 (lv_at hl 5 rfl) ?_
      refine lv_i2d hx hb dL_isWhole_590 ?_
      refine lv_iload hx hb dL_isWhole_591 (lv_at hl 6 rfl) ?_
      refine lv_i2d hx hb dL_isWhole_593 ?_
      have hz_124 : vf_n64 (FP.ddiv (FP.i2d v5_40) (FP.i2d v6_41)) := (rc_dc hm).1
      replace hm := (rc_dc hm).2
      refine lv_ddiv hx hb dL_isWhole_594 hz_124 ?_
      refine W.widen (k := 0 + 1 + 1422 + 30 + 808 + 270 + 1 + 3 + 1) (n := 0 + 6 + 8532 + 180 + 4848 + 1620 + 6 + 18 + 6) (by omega) (by omega) ?_
      exact hJ_595 (FP.ddiv (FP.i2d v5_40) (FP.i2d v6_41)) σ_105 _ _ _ hm hW hS (lv_sub hl [0, 1, 2, 3, 4] rfl)
    · replace hm := rc_t hm c_125
      refine lv_ldc2d hx hb hown (hts _ tw_7_55) dL_isWhole_582 ?_
      refine lv_goto (tgt := 595) hx hb dL_isWhole_585 (by decide) ?_
      refine W.widen (k := 0 + 1 + 1422 + 30 + 808 + 270 + 1 + 3 + 1) (n := 0 + 6 + 8532 + 180 + 4848 + 1620 + 6 + 18 + 6) (by omega) (by omega) ?_
      exact hJ_595 (13858279740860792832 : UInt64) σ_105 _ _ _ hm hW hS (lv_sub hl [0, 1, 2, 3, 4] rfl)
  refine lv_icmp_ne (tgt := 570) hx hb dL_isWhole_505 (by decide) (fun c_138 => ?_) (fun c_138 => ?_)
  · replace hm := rc_f hm c_138
    refine lv_iconst (v := 0) hx hb dL_isWhole_570 (by decide) ?_
    refine W.widen (k := 0 + 1 + 1422 + 30 + 808 + 270 + 1 + 3) (n := 0 + 6 + 8532 + 180 + 4848 + 1620 + 6 + 18) (by omega) (by omega) ?_
    exact hJ_571 (0 : Int32) σ_102 _ _ _ hm hW hS (lv_sub hl [0, 1, 2, 3, 4, 5] rfl)
  · replace hm := rc_t hm c_138
    refine lv_iload hx hb dL_isWhole_508 (lv_at hl 7 rfl) ?_
    refine lv_iload_n hx hb dL_isWhole_510 rfl (lv_at hl 2 rfl) ?_
    refine lv_icmp_ne (tgt := 570) hx hb dL_isWhole_511 (by decide) (fun c_137 => ?_) (fun c_137 => ?_)
    · replace hm := rc_f hm c_137
      refine lv_iconst (v := 0) hx hb dL_isWhole_570 (by decide) ?_
      refine W.widen (k := 0 + 1 + 1422 + 30 + 808 + 270 + 1 + 3) (n := 0 + 6 + 8532 + 180 + 4848 + 1620 + 6 + 18) (by omega) (by omega) ?_
      exact hJ_571 (0 : Int32) σ_102 _ _ _ hm hW hS (lv_sub hl [0, 1, 2, 3, 4, 5] rfl)
    · replace hm := rc_t hm c_137
      refine lv_iload hx hb dL_isWhole_514 (lv_at hl 6 rfl) ?_
      refine lv_iload_n hx hb dL_isWhole_516 rfl (lv_at hl 1 rfl) ?_
      refine lv_icmp_ne (tgt := 570) hx hb dL_isWhole_517 (by decide) (fun c_136 => ?_) (fun c_136 => ?_)
      · replace hm := rc_f hm c_136
        refine lv_iconst (v := 0) hx hb dL_isWhole_570 (by decide) ?_
        refine W.widen (k := 0 + 1 + 1422 + 30 + 808 + 270 + 1 + 3) (n := 0 + 6 + 8532 + 180 + 4848 + 1620 + 6 + 18) (by omega) (by omega) ?_
        exact hJ_571 (0 : Int32) σ_102 _ _ _ hm hW hS (lv_sub hl [0, 1, 2, 3, 4, 5] rfl)
      · replace hm := rc_t hm c_136
        refine lv_iload hx hb dL_isWhole_520 (lv_at hl 8 rfl) ?_
        refine lv_iload_n hx hb dL_isWhole_522 rfl (lv_at hl 2 rfl) ?_
        refine lv_icmp_ne (tgt := 570) hx hb dL_isWhole_523 (by decide) (fun c_135 => ?_) (fun c_135 => ?_)
        · replace hm := rc_f hm c_135
          refine lv_iconst (v := 0) hx hb dL_isWhole_570 (by decide) ?_
          refine W.widen (k := 0 + 1 + 1422 + 30 + 808 + 270 + 1 + 3) (n := 0 + 6 + 8532 + 180 + 4848 + 1620 + 6 + 18) (by omega) (by omega) ?_
          exact hJ_571 (0 : Int32) σ_102 _ _ _ hm hW hS (lv_sub hl [0, 1, 2, 3, 4, 5] rfl)
        · replace hm := rc_t hm c_135
          refine lv_aload_n hx hb dL_isWhole_526 rfl (lv_at hl 0 rfl) ?_
          refine lv_iconst (v := 2) hx hb dL_isWhole_527 (by decide) ?_
          obtain ⟨w_126, σ_126, hc_126, hm0⟩ := rc_bd_inv hm
          clear hm
          refine rc_ci hS (vx_runSW (As := [.ref a0, .int (2 : Int32)]) (rest := []) ⟨hx, hb, hml, hown, hts⟩ (k_L_account l hl9 hT z a0 (2 : Int32) h0 H.size _ _ _ hc_126) (vx_cwSW 2 hts (rc_gS tw_3_118 tw_3_119 tw_1_0 tw_3_120) rfl rfl rfl (by decide +kernel) ⟨Nat.le_of_ble_eq_true rfl, Nat.le_of_ble_eq_true rfl⟩) (rc_preSL hT hW hK hE hN hXz hS [.ref a0, .int (2 : Int32)]) rfl rfl hl.1 rfl (lv_room (Nat.le_of_ble_eq_true rfl)) dL_isWhole_528 ⟨show 0 + 1 + 1422 + 30 + 808 + 270 + 1 + 1 ≤ 2540 from by omega, show 0 + 6 + 8532 + 180 + 4848 + 1620 + 6 + 6 ≤ 15240 from by omega⟩) (fun H locs hW hS => ?_)
          have hm := hm0
          clear hm0 hc_126
          refine lv_if_lt (tgt := 570) hx hb dL_isWhole_531 (by decide) (fun c_134 => ?_) (fun c_134 => ?_)
          · replace hm := rc_t hm c_134
            refine lv_iconst (v := 0) hx hb dL_isWhole_570 (by decide) ?_
            refine W.widen (k := 0 + 1 + 1422 + 30 + 808 + 270 + 1 + 3) (n := 0 + 6 + 8532 + 180 + 4848 + 1620 + 6 + 18) (by omega) (by omega) ?_
            exact hJ_571 (0 : Int32) σ_126 _ _ _ hm hW hS (lv_sub hl [0, 1, 2, 3, 4, 5] rfl)
          · replace hm := rc_f hm c_134
            refine lv_aload_n hx hb dL_isWhole_534 rfl (lv_at hl 0 rfl) ?_
            refine lv_iconst (v := 2) hx hb dL_isWhole_535 (by decide) ?_
            obtain ⟨w_127, σ_127, hc_127, hm0⟩ := rc_bd_inv hm
            clear hm
            refine rc_ci hS (vx_runSW (As := [.ref a0, .int (2 : Int32)]) (rest := []) ⟨hx, hb, hml, hown, hts⟩ (k_L_account l hl9 hT z a0 (2 : Int32) h0 H.size _ _ _ hc_127) (vx_cwSW 2 hts (rc_gS tw_3_118 tw_3_119 tw_1_0 tw_3_120) rfl rfl rfl (by decide +kernel) ⟨Nat.le_of_ble_eq_true rfl, Nat.le_of_ble_eq_true rfl⟩) (rc_preSL hT hW hK hE hN hXz hS [.ref a0, .int (2 : Int32)]) rfl rfl hl.1 rfl (lv_room (Nat.le_of_ble_eq_true rfl)) dL_isWhole_536 ⟨show 0 + 1 + 1422 + 30 + 808 + 270 + 1 + 1 + 1 ≤ 2540 from by omega, show 0 + 6 + 8532 + 180 + 4848 + 1620 + 6 + 6 + 6 ≤ 15240 from by omega⟩) (fun H locs hW hS => ?_)
            have hm := hm0
            clear hm0 hc_127
            refine lv_bipush (v := 9) hx hb dL_isWhole_539 (by decide) ?_
            refine lv_icmp_gt (tgt := 570) hx hb dL_isWhole_541 (by decide) (fun c_133 => ?_) (fun c_133 => ?_)
            · replace hm := rc_t hm c_133
              refine lv_iconst (v := 0) hx hb dL_isWhole_570 (by decide) ?_
              refine W.widen (k := 0 + 1 + 1422 + 30 + 808 + 270 + 1 + 3) (n := 0 + 6 + 8532 + 180 + 4848 + 1620 + 6 + 18) (by omega) (by omega) ?_
              exact hJ_571 (0 : Int32) σ_127 _ _ _ hm hW hS (lv_sub hl [0, 1, 2, 3, 4, 5] rfl)
            · replace hm := rc_f hm c_133
              refine lv_iload_n hx hb dL_isWhole_544 rfl (lv_at hl 1 rfl) ?_
              refine lv_bipush (v := 8) hx hb dL_isWhole_545 (by decide) ?_
              refine lv_icmp_gt (tgt := 570) hx hb dL_isWhole_547 (by decide) (fun c_132 => ?_) (fun c_132 => ?_)
              · replace hm := rc_t hm c_132
                refine lv_iconst (v := 0) hx hb dL_isWhole_570 (by decide) ?_
                refine W.widen (k := 0 + 1 + 1422 + 30 + 808 + 270 + 1 + 3) (n := 0 + 6 + 8532 + 180 + 4848 + 1620 + 6 + 18) (by omega) (by omega) ?_
                exact hJ_571 (0 : Int32) σ_127 _ _ _ hm hW hS (lv_sub hl [0, 1, 2, 3, 4, 5] rfl)
              · replace hm := rc_f hm c_132
                refine lv_aload_n hx hb dL_isWhole_550 rfl (lv_at hl 0 rfl) ?_
                refine lv_iconst (v := 3) hx hb dL_isWhole_551 (by decide) ?_
                obtain ⟨w_128, σ_128, hc_128, hm0⟩ := rc_bd_inv hm
                clear hm
                refine rc_ci hS (vx_runSW (As := [.ref a0, .int (3 : Int32)]) (rest := []) ⟨hx, hb, hml, hown, hts⟩ (k_L_account l hl9 hT z a0 (3 : Int32) h0 H.size _ _ _ hc_128) (vx_cwSW 2 hts (rc_gS tw_3_118 tw_3_119 tw_1_0 tw_3_120) rfl rfl rfl (by decide +kernel) ⟨Nat.le_of_ble_eq_true rfl, Nat.le_of_ble_eq_true rfl⟩) (rc_preSL hT hW hK hE hN hXz hS [.ref a0, .int (3 : Int32)]) rfl rfl hl.1 rfl (lv_room (Nat.le_of_ble_eq_true rfl)) dL_isWhole_552 ⟨show 0 + 1 + 1422 + 30 + 808 + 270 + 1 + 1 + 1 + 1 ≤ 2540 from by omega, show 0 + 6 + 8532 + 180 + 4848 + 1620 + 6 + 6 + 6 + 6 ≤ 15240 from by omega⟩) (fun H locs hW hS => ?_)
                have hm := hm0
                clear hm0 hc_128
                refine lv_iconst (v := 4) hx hb dL_isWhole_555 (by decide) ?_
                refine lv_icmp_gt (tgt := 570) hx hb dL_isWhole_556 (by decide) (fun c_131 => ?_) (fun c_131 => ?_)
                · replace hm := rc_t hm c_131
                  refine lv_iconst (v := 0) hx hb dL_isWhole_570 (by decide) ?_
                  refine W.widen (k := 0 + 1 + 1422 + 30 + 808 + 270 + 1 + 3) (n := 0 + 6 + 8532 + 180 + 4848 + 1620 + 6 + 18) (by omega) (by omega) ?_
                  exact hJ_571 (0 : Int32) σ_128 _ _ _ hm hW hS (lv_sub hl [0, 1, 2, 3, 4, 5] rfl)
                · replace hm := rc_f hm c_131
                  refine lv_aload_n hx hb dL_isWhole_559 rfl (lv_at hl 0 rfl) ?_
                  obtain ⟨w_129, σ_129, hc_129, hm0⟩ := rc_bd_inv hm
                  clear hm
                  refine rc_ci hS (va_runV (As := []) (rest := []) ⟨hx, hb, hml, hown, hts⟩ (k_X8_isEven l hT a0 h0 H.size _ _ _ hc_129) (cwV 0 hts (rc_gV tw_7_25 tw_7_26 tw_7_27 tw_1_1 tw_7_28) rfl rfl rfl (by decide +kernel) ⟨Nat.le_of_ble_eq_true rfl, Nat.le_of_ble_eq_true rfl⟩) (rc_preV hT hW hK hE hS h0 (by decide) rfl (q := (RX8, TX8, 9)) rfl []) rfl rfl hl.1 rfl (lv_room (Nat.le_of_ble_eq_true rfl)) dL_isWhole_560 ⟨show 0 + 1 + 1422 + 30 + 808 + 270 + 1 + 1 + 1 + 1 + 0 ≤ 2540 from by omega, show 0 + 6 + 8532 + 180 + 4848 + 1620 + 6 + 6 + 6 + 6 + 0 ≤ 15240 from by omega⟩) (fun H locs hW hS => ?_)
                  have hm := hm0
                  clear hm0 hc_129
                  refine lv_if_eq (tgt := 570) hx hb dL_isWhole_563 (by decide) (fun c_130 => ?_) (fun c_130 => ?_)
                  · replace hm := rc_t hm c_130
                    refine lv_iconst (v := 0) hx hb dL_isWhole_570 (by decide) ?_
                    refine W.widen (k := 0 + 1 + 1422 + 30 + 808 + 270 + 1 + 3) (n := 0 + 6 + 8532 + 180 + 4848 + 1620 + 6 + 18) (by omega) (by omega) ?_
                    exact hJ_571 (0 : Int32) σ_129 _ _ _ hm hW hS (lv_sub hl [0, 1, 2, 3, 4, 5] rfl)
                  · replace hm := rc_f hm c_130
                    refine lv_iconst (v := 1) hx hb dL_isWhole_566 (by decide) ?_
                    refine lv_goto (tgt := 571) hx hb dL_isWhole_567 (by decide) ?_
                    refine W.widen (k := 0 + 1 + 1422 + 30 + 808 + 270 + 1 + 3) (n := 0 + 6 + 8532 + 180 + 4848 + 1620 + 6 + 18) (by omega) (by omega) ?_
                    exact hJ_571 (1 : Int32) σ_129 _ _ _ hm hW hS (lv_sub hl [0, 1, 2, 3, 4, 5] rfl)
