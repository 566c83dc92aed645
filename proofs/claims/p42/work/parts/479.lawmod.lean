theorem tw_3_107 : (Jvm.Cond.methodLink "RainCellarLaw" (175 : Nat) ({ cls := "RainCellarLaw", name := "wouldLose", desc := "(LRainCellar;I)I" } : Jvm.MethodName)) ∈ rc_big := rc_mem (rc_m3 107 (by decide +kernel)) rfl
theorem tw_3_108 : (Jvm.Cond.static ({ cls := "RainCellarLaw", name := "wouldLose", desc := "(LRainCellar;I)I" } : Jvm.MethodName)) ∈ rc_big := rc_mem (rc_m3 108 (by decide +kernel)) rfl
theorem tw_3_109 : (Jvm.Cond.codeWith ({ cls := "RainCellarLaw", name := "wouldLose", desc := "(LRainCellar;I)I" } : Jvm.MethodName) method_23_code (3 : Nat) (Option.some Jvm.ClassFile.FieldType.int) [((0 : Nat), (5 : Nat), (6 : Nat), (54 : Nat))]) ∈ rc_big := rc_mem (rc_m3 109 (by decide +kernel)) rfl
theorem tw_3_129 : (Jvm.Cond.methodLink "RainCellarLaw" (181 : Nat) ({ cls := "RainCellarLaw", name := "does", desc := "([IIILRainCellar;II)I" } : Jvm.MethodName)) ∈ rc_big := rc_mem (rc_m3 129 (by decide +kernel)) rfl
theorem tw_3_130 : (Jvm.Cond.static ({ cls := "RainCellarLaw", name := "does", desc := "([IIILRainCellar;II)I" } : Jvm.MethodName)) ∈ rc_big := rc_mem (rc_m3 130 (by decide +kernel)) rfl
theorem tw_3_131 : (Jvm.Cond.code ({ cls := "RainCellarLaw", name := "does", desc := "([IIILRainCellar;II)I" } : Jvm.MethodName) method_42_code (8 : Nat) (Option.some Jvm.ClassFile.FieldType.int)) ∈ rc_big := rc_mem (rc_m3 131 (by decide +kernel)) rfl
theorem tw_3_68 : (Jvm.Cond.methodLink "RainCellarLaw" (173 : Nat) ({ cls := "RainCellarLaw", name := "wouldCatch", desc := "(LRainCellar;I)I" } : Jvm.MethodName)) ∈ rc_big := rc_mem (rc_m3 68 (by decide +kernel)) rfl
theorem tw_3_69 : (Jvm.Cond.static ({ cls := "RainCellarLaw", name := "wouldCatch", desc := "(LRainCellar;I)I" } : Jvm.MethodName)) ∈ rc_big := rc_mem (rc_m3 69 (by decide +kernel)) rfl
theorem tw_3_70 : (Jvm.Cond.codeWith ({ cls := "RainCellarLaw", name := "wouldCatch", desc := "(LRainCellar;I)I" } : Jvm.MethodName) method_22_code (3 : Nat) (Option.some Jvm.ClassFile.FieldType.int) [((0 : Nat), (5 : Nat), (6 : Nat), (54 : Nat))]) ∈ rc_big := rc_mem (rc_m3 70 (by decide +kernel)) rfl
theorem tw_6_141 : (Jvm.Cond.methodLink "RainCellarLaw" (185 : Nat) ({ cls := "RainCellarLaw", name := "isWhole", desc := "(LRainCellar;I)Z" } : Jvm.MethodName)) ∈ rc_big := rc_mem (rc_m6 141 (by decide +kernel)) rfl
theorem tw_6_142 : (Jvm.Cond.static ({ cls := "RainCellarLaw", name := "isWhole", desc := "(LRainCellar;I)Z" } : Jvm.MethodName)) ∈ rc_big := rc_mem (rc_m6 142 (by decide +kernel)) rfl
theorem tw_6_143 : (Jvm.Cond.code ({ cls := "RainCellarLaw", name := "isWhole", desc := "(LRainCellar;I)Z" } : Jvm.MethodName) method_45_code (15 : Nat) (Option.some Jvm.ClassFile.FieldType.boolean)) ∈ rc_big := rc_mem (rc_m6 143 rfl) rfl
theorem tw_7_68 : (Jvm.Cond.methodLink "RainCellarLaw" (189 : Nat) ({ cls := "RainCellarLaw", name := "isKept", desc := "(LRainCellar;[JI)Z" } : Jvm.MethodName)) ∈ rc_big := rc_mem (rc_m7 68 (by decide +kernel)) rfl
theorem tw_7_69 : (Jvm.Cond.static ({ cls := "RainCellarLaw", name := "isKept", desc := "(LRainCellar;[JI)Z" } : Jvm.MethodName)) ∈ rc_big := rc_mem (rc_m7 69 (by decide +kernel)) rfl
theorem tw_7_70 : (Jvm.Cond.code ({ cls := "RainCellarLaw", name := "isKept", desc := "(LRainCellar;[JI)Z" } : Jvm.MethodName) method_47_code (6 : Nat) (Option.some Jvm.ClassFile.FieldType.boolean)) ∈ rc_big := rc_mem (rc_m7 70 (by decide +kernel)) rfl
def f_L_law_28 (rf : rc_F) (z : rc_Z) (r1 : Nat) (K : Int32 → Int32 → Int32 → rc_S → (Nat → Int64) → Option (Int32 × rc_S)) : Nat → Int32 → Int32 → Int32 → rc_S → (Nat → Int64) → Option (Int32 × rc_S)
  | 0, _, _, _, _, _ => none
  | n_28 + 1, v3, v4, v5, σ, φ =>
    if (48 : Int32) ≤ v5 then
      K v3 v4 v5 σ φ
    else
      rc_bd (f_L_sum rf z r1 σ) fun w_3 σ_3 =>
      rc_bd (f_L_account rf z r1 (10 : Int32) σ_3) fun w_4 σ_4 =>
      rc_jn (fun (w_77_5 : Int32) (σ_6 : rc_S) =>
        rc_bd (f_L_account rf z r1 (0 : Int32) σ_6) fun w_7 σ_7 =>
        rc_jn (fun (w_113_8 : Int32) (σ_9 : rc_S) =>
          rc_bd (f_L_pick rf z (v4 + (2 : Int32)) (w_7 + w_113_8) σ_9) fun w_10 σ_10 =>
          rc_bd (f_L_pick rf z (v4 + (3 : Int32)) (9 : Int32) σ_10) fun w_11 σ_11 =>
          rc_lt ((1 : Int32) + w_11) fun v12_12 =>
          rc_bd (f_L_wouldCatch rf z r1 v12_12 σ_11) fun w_13 σ_13 =>
          rc_bd (f_L_wouldLose rf z r1 v12_12 σ_13) fun w_14 σ_14 =>
          rc_bd (f_L_account rf z r1 (6 : Int32) σ_14) fun w_15 σ_15 =>
          rc_bd (f_L_note rf z r1 w_10 σ_15) fun w_16 σ_16 =>
          rc_bd (f_L_noticing rf z r1 w_10 σ_16) fun w_17 σ_17 =>
          rc_bd (f_L_account rf z r1 (9 : Int32) σ_17) fun w_18 σ_18 =>
          rc_bd (f_L_account rf z r1 (3 : Int32) σ_18) fun w_19 σ_19 =>
          rc_bd (f_L_does rf z v4 w_77_5 r1 w_10 v12_12 σ_19) fun w_20 σ_20 =>
          rc_jn (fun (w_221_21 : Int32) (σ_22 : rc_S) =>
            rc_jn (fun (w_249_23 : Int32) (σ_24 : rc_S) =>
              rc_jn (fun (w_295_25 : Int32) (σ_26 : rc_S) =>
                rc_jn (fun (w_350_27 : Int32) (σ_28 : rc_S) =>
                  rc_lt (w_295_25 &&& w_350_27) fun v23_29 =>
                  rc_lt (v4 + 6) fun v4_30 =>
                  if v23_29 = 0 then
                    some ((0 : Int32), σ_28)
                  else
                    rc_bd (f_L_pick rf z v4_30 (21 : Int32) σ_28) fun w_31 σ_31 =>
                    rc_bd (f_L_isWhole rf z r1 w_31 σ_31) fun w_32 σ_32 =>
                    if w_32 = 0 then
                      some ((0 : Int32), σ_32)
                    else
                      rc_jn (fun (v3_33 : Int32) (σ_34 : rc_S) (φ_34 : Nat → Int64) =>
                        rc_lt (v5 + 1) fun v5_35 =>
                        f_L_law_28 rf z r1 K n_28 v3_33 v4_30 v5_35 σ_34 φ_34
                      ) fun J_427 =>
                      if (-74 : Int32) < w_20 then
                        rc_lt (v3 + 1) fun v3_36 =>
                        rc_bd (f_L_sum rf z r1 σ_32) fun w_37 σ_37 =>
                        rc_ck (rc_in v3_36 60) <|
                        rc_lt (vp_updL φ v3_36.toNatClampNeg w_37) fun φ_38 =>
                        J_427 v3_36 σ_37 φ_38
                      else
                        rc_bd (f_L_sum rf z r1 σ_32) fun w_39 σ_39 =>
                        if (lg_cmp w_39 w_3) = 0 then
                          rc_bd (f_L_account rf z r1 (10 : Int32) σ_39) fun w_40 σ_40 =>
                          if w_40 = w_4 then
                            rc_bd (f_L_account rf z r1 (11 : Int32) σ_40) fun w_41 σ_41 =>
                            if w_41 = 0 then
                              J_427 v3 σ_41 φ
                            else
                              some ((0 : Int32), σ_41)
                          else
                            some ((0 : Int32), σ_40)
                        else
                          some ((0 : Int32), σ_39)
                ) fun J_350 =>
                if w_249_23 = 0 then
                  J_350 (1 : Int32) σ_26
                else
                  rc_jn (fun (w_320_48 : Int32) (σ_49 : rc_S) =>
                    if w_20 = w_320_48 then
                      rc_bd (f_L_account rf z r1 (9 : Int32) σ_49) fun w_50 σ_50 =>
                      rc_jn (fun (w_341_51 : Int32) (σ_52 : rc_S) =>
                        if w_50 = (w_18 + w_341_51) then
                          J_350 (1 : Int32) σ_52
                        else
                          J_350 (0 : Int32) σ_52
                      ) fun J_341 =>
                      if w_17 = 0 then
                        J_341 (0 : Int32) σ_50
                      else
                        J_341 (1 : Int32) σ_50
                    else
                      J_350 (0 : Int32) σ_49
                  ) fun J_320 =>
                  if w_17 = 0 then
                    J_320 (w_16 * w_19) σ_26
                  else
                    J_320 (0 : Int32) σ_26
              ) fun J_295 =>
              if w_221_21 = 0 then
                J_295 (1 : Int32) σ_24
              else
                if w_20 = w_13 then
                  rc_bd (f_L_account rf z r1 (6 : Int32) σ_24) fun w_58 σ_58 =>
                  if w_58 = (w_15 + w_14) then
                    if (w_13 + w_14) = ((10 : Int32) * v12_12) then
                      J_295 (1 : Int32) σ_58
                    else
                      J_295 (0 : Int32) σ_58
                  else
                    J_295 (0 : Int32) σ_58
                else
                  J_295 (0 : Int32) σ_24
            ) fun J_249 =>
            if w_77_5 ≤ (19 : Int32) then
              J_249 (0 : Int32) σ_22
            else
              if (25 : Int32) ≤ w_77_5 then
                J_249 (0 : Int32) σ_22
              else
                if w_20 ≤ (-70 : Int32) then
                  J_249 (0 : Int32) σ_22
                else
                  J_249 (1 : Int32) σ_22
          ) fun J_221 =>
          if w_77_5 ≤ (2 : Int32) then
            J_221 (0 : Int32) σ_20
          else
            if (7 : Int32) ≤ w_77_5 then
              J_221 (0 : Int32) σ_20
            else
              J_221 (1 : Int32) σ_20
        ) fun J_113 =>
        if (v5 - v5 / (9 : Int32) * (9 : Int32)) = (8 : Int32) then
          J_113 (1 : Int32) σ_7
        else
          if w_7 = 0 then
            J_113 (1 : Int32) σ_7
          else
            J_113 (0 : Int32) σ_7
      ) fun J_77 =>
      if (4 : Int32) ≤ v5 then
        if (5 : Int32) ≤ v5 then
          rc_bd (f_L_pick rf z v4 (31 : Int32) σ_4) fun w_70 σ_70 =>
          J_77 w_70 σ_70
        else
          J_77 (3 : Int32) σ_4
      else
        J_77 (0 : Int32) σ_4
def f_L_law (rf : rc_F) (z : rc_Z) (a1 : Nat) (σ : rc_S) (φ : Nat → Int64) : Option (Int32 × rc_S) :=
  rc_bd (f_L_sum rf z a1 σ) fun w_1 σ_1 =>
  rc_ck (rc_in (0 : Int32) 60) <|
  rc_lt (vp_updL φ (0 : Int32).toNatClampNeg w_1) fun φ_2 =>
  f_L_law_28 rf z a1 (fun v3_74 v4_75 v5_76 σ_77 φ_77 =>
    rc_bd (f_L_isKept rf z a1 v3_74 σ_77 φ_77) fun w_78 σ_78 =>
    some (w_78, σ_78)
  ) 49 (0 : Int32) (0 : Int32) (0 : Int32) σ_1 φ_2
