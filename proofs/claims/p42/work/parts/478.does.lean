theorem tw_2_110 : (Jvm.Cond.methodLink "RainCellarLaw" (169 : Nat) ({ cls := "RainCellarLaw", name := "pick", desc := "([III)I" } : Jvm.MethodName)) ∈ rc_big := rc_mem (rc_m2 110 (by decide +kernel)) rfl
theorem tw_2_111 : (Jvm.Cond.static ({ cls := "RainCellarLaw", name := "pick", desc := "([III)I" } : Jvm.MethodName)) ∈ rc_big := rc_mem (rc_m2 111 (by decide +kernel)) rfl
theorem tw_2_112 : (Jvm.Cond.code ({ cls := "RainCellarLaw", name := "pick", desc := "([III)I" } : Jvm.MethodName) method_3_code (3 : Nat) (Option.some Jvm.ClassFile.FieldType.int)) ∈ rc_big := rc_mem (rc_m2 112 (by decide +kernel)) rfl
theorem tw_3_132 : (Jvm.Cond.methodLink "RainCellarLaw" (193 : Nat) ({ cls := "RainCellarLaw", name := "barrel", desc := "(LRainCellar;I)I" } : Jvm.MethodName)) ∈ rc_big := rc_mem (rc_m3 132 (by decide +kernel)) rfl
theorem tw_3_133 : (Jvm.Cond.static ({ cls := "RainCellarLaw", name := "barrel", desc := "(LRainCellar;I)I" } : Jvm.MethodName)) ∈ rc_big := rc_mem (rc_m3 133 (by decide +kernel)) rfl
theorem tw_3_134 : (Jvm.Cond.codeWith ({ cls := "RainCellarLaw", name := "barrel", desc := "(LRainCellar;I)I" } : Jvm.MethodName) method_5_code (3 : Nat) (Option.some Jvm.ClassFile.FieldType.int) [((0 : Nat), (5 : Nat), (6 : Nat), (20 : Nat))]) ∈ rc_big := rc_mem (rc_m3 134 (by decide +kernel)) rfl
theorem tw_3_215 : (Jvm.Cond.methodLink "RainCellarLaw" (195 : Nat) ({ cls := "RainCellarLaw", name := "storm", desc := "(LRainCellar;II)I" } : Jvm.MethodName)) ∈ rc_big := rc_mem (rc_m3 215 (by decide +kernel)) rfl
theorem tw_3_216 : (Jvm.Cond.static ({ cls := "RainCellarLaw", name := "storm", desc := "(LRainCellar;II)I" } : Jvm.MethodName)) ∈ rc_big := rc_mem (rc_m3 216 (by decide +kernel)) rfl
theorem tw_3_217 : (Jvm.Cond.codeWith ({ cls := "RainCellarLaw", name := "storm", desc := "(LRainCellar;II)I" } : Jvm.MethodName) method_4_code (4 : Nat) (Option.some Jvm.ClassFile.FieldType.int) [((0 : Nat), (6 : Nat), (7 : Nat), (20 : Nat))]) ∈ rc_big := rc_mem (rc_m3 217 (by decide +kernel)) rfl
theorem tw_4_115 : (Jvm.Cond.methodLink "RainCellarLaw" (214 : Nat) ({ cls := "RainCellarLaw", name := "pour", desc := "(LRainCellar;III)I" } : Jvm.MethodName)) ∈ rc_big := rc_mem (rc_m4 115 (by decide +kernel)) rfl
theorem tw_4_116 : (Jvm.Cond.static ({ cls := "RainCellarLaw", name := "pour", desc := "(LRainCellar;III)I" } : Jvm.MethodName)) ∈ rc_big := rc_mem (rc_m4 116 (by decide +kernel)) rfl
theorem tw_4_117 : (Jvm.Cond.codeWith ({ cls := "RainCellarLaw", name := "pour", desc := "(LRainCellar;III)I" } : Jvm.MethodName) method_7_code (5 : Nat) (Option.some Jvm.ClassFile.FieldType.int) [((0 : Nat), (7 : Nat), (8 : Nat), (20 : Nat))]) ∈ rc_big := rc_mem (rc_m4 117 (by decide +kernel)) rfl
theorem tw_4_135 : (Jvm.Cond.classLink "RainCellarLaw" (217 : Nat) "java/lang/StringBuilder") ∈ rc_big := rc_mem (rc_m4 135 (by decide +kernel)) rfl
theorem tw_4_136 : (Jvm.Cond.methodLink "RainCellarLaw" (219 : Nat) ({ cls := "java/lang/StringBuilder", name := "<init>", desc := "()V" } : Jvm.MethodName)) ∈ rc_big := rc_mem (rc_m4 136 (by decide +kernel)) rfl
theorem tw_4_138 : (Jvm.Cond.methodLink "RainCellarLaw" (222 : Nat) ({ cls := "java/lang/StringBuilder", name := "append", desc := "(Ljava/lang/String;)Ljava/lang/StringBuilder;" } : Jvm.MethodName)) ∈ rc_big := rc_mem (rc_m4 138 (by decide +kernel)) rfl
theorem tw_4_139 : (Jvm.Cond.instanceMethod ({ cls := "java/lang/StringBuilder", name := "append", desc := "(Ljava/lang/String;)Ljava/lang/StringBuilder;" } : Jvm.MethodName)) ∈ rc_big := rc_mem (rc_m4 139 (by decide +kernel)) rfl
theorem tw_4_14 : (Jvm.Cond.methodLink "RainCellarLaw" (201 : Nat) ({ cls := "RainCellarLaw", name := "sommelier", desc := "(LRainCellar;IZ)I" } : Jvm.MethodName)) ∈ rc_big := rc_mem (rc_m4 14 (by decide +kernel)) rfl
theorem tw_4_140 : (Jvm.Cond.selects "java/lang/StringBuilder" ({ cls := "java/lang/StringBuilder", name := "append", desc := "(Ljava/lang/String;)Ljava/lang/StringBuilder;" } : Jvm.MethodName) ({ cls := "java/lang/StringBuilder", name := "append", desc := "(Ljava/lang/String;)Ljava/lang/StringBuilder;" } : Jvm.MethodName)) ∈ rc_big := rc_mem (rc_m4 140 (by decide +kernel)) rfl
theorem tw_4_141 : (Jvm.Cond.code ({ cls := "java/lang/StringBuilder", name := "append", desc := "(Ljava/lang/String;)Ljava/lang/StringBuilder;" } : Jvm.MethodName) prog_30_method_7_code (2 : Nat) (Option.some (Jvm.ClassFile.FieldType.object "java/lang/StringBuilder"))) ∈ rc_big := rc_mem (rc_m4 141 (by decide +kernel)) rfl
theorem tw_4_15 : (Jvm.Cond.static ({ cls := "RainCellarLaw", name := "sommelier", desc := "(LRainCellar;IZ)I" } : Jvm.MethodName)) ∈ rc_big := rc_mem (rc_m4 15 (by decide +kernel)) rfl
theorem tw_4_16 : (Jvm.Cond.codeWith ({ cls := "RainCellarLaw", name := "sommelier", desc := "(LRainCellar;IZ)I" } : Jvm.MethodName) method_9_code (4 : Nat) (Option.some Jvm.ClassFile.FieldType.int) [((0 : Nat), (6 : Nat), (7 : Nat), (20 : Nat))]) ∈ rc_big := rc_mem (rc_m4 16 (by decide +kernel)) rfl
theorem tw_4_29 : (Jvm.Cond.methodLink "RainCellarLaw" (204 : Nat) ({ cls := "RainCellarLaw", name := "leave", desc := "(LRainCellar;I)I" } : Jvm.MethodName)) ∈ rc_big := rc_mem (rc_m4 29 (by decide +kernel)) rfl
theorem tw_4_30 : (Jvm.Cond.static ({ cls := "RainCellarLaw", name := "leave", desc := "(LRainCellar;I)I" } : Jvm.MethodName)) ∈ rc_big := rc_mem (rc_m4 30 (by decide +kernel)) rfl
theorem tw_4_31 : (Jvm.Cond.codeWith ({ cls := "RainCellarLaw", name := "leave", desc := "(LRainCellar;I)I" } : Jvm.MethodName) method_10_code (3 : Nat) (Option.some Jvm.ClassFile.FieldType.int) [((0 : Nat), (5 : Nat), (6 : Nat), (20 : Nat))]) ∈ rc_big := rc_mem (rc_m4 31 (by decide +kernel)) rfl
theorem tw_4_48 : (Jvm.Cond.methodLink "RainCellarLaw" (206 : Nat) ({ cls := "RainCellarLaw", name := "clear", desc := "(LRainCellar;I)I" } : Jvm.MethodName)) ∈ rc_big := rc_mem (rc_m4 48 (by decide +kernel)) rfl
theorem tw_4_49 : (Jvm.Cond.static ({ cls := "RainCellarLaw", name := "clear", desc := "(LRainCellar;I)I" } : Jvm.MethodName)) ∈ rc_big := rc_mem (rc_m4 49 (by decide +kernel)) rfl
theorem tw_4_50 : (Jvm.Cond.codeWith ({ cls := "RainCellarLaw", name := "clear", desc := "(LRainCellar;I)I" } : Jvm.MethodName) method_12_code (3 : Nat) (Option.some Jvm.ClassFile.FieldType.int) [((0 : Nat), (5 : Nat), (6 : Nat), (20 : Nat))]) ∈ rc_big := rc_mem (rc_m4 50 (by decide +kernel)) rfl
theorem tw_4_59 : (Jvm.Cond.methodLink "RainCellarLaw" (208 : Nat) ({ cls := "RainCellarLaw", name := "takeAway", desc := "(LRainCellar;I)I" } : Jvm.MethodName)) ∈ rc_big := rc_mem (rc_m4 59 (by decide +kernel)) rfl
theorem tw_4_6 : (Jvm.Cond.methodLink "RainCellarLaw" (198 : Nat) ({ cls := "RainCellar", name := "year", desc := "()I" } : Jvm.MethodName)) ∈ rc_big := rc_mem (rc_m4 6 (by decide +kernel)) rfl
theorem tw_4_60 : (Jvm.Cond.static ({ cls := "RainCellarLaw", name := "takeAway", desc := "(LRainCellar;I)I" } : Jvm.MethodName)) ∈ rc_big := rc_mem (rc_m4 60 (by decide +kernel)) rfl
theorem tw_4_61 : (Jvm.Cond.codeWith ({ cls := "RainCellarLaw", name := "takeAway", desc := "(LRainCellar;I)I" } : Jvm.MethodName) method_6_code (3 : Nat) (Option.some Jvm.ClassFile.FieldType.int) [((0 : Nat), (5 : Nat), (6 : Nat), (20 : Nat))]) ∈ rc_big := rc_mem (rc_m4 61 (by decide +kernel)) rfl
theorem tw_4_7 : (Jvm.Cond.instanceMethod ({ cls := "RainCellar", name := "year", desc := "()I" } : Jvm.MethodName)) ∈ rc_big := rc_mem (rc_m4 7 (by decide +kernel)) rfl
theorem tw_4_75 : (Jvm.Cond.methodLink "RainCellarLaw" (210 : Nat) ({ cls := "RainCellarLaw", name := "hail", desc := "(LRainCellar;II)I" } : Jvm.MethodName)) ∈ rc_big := rc_mem (rc_m4 75 (by decide +kernel)) rfl
theorem tw_4_76 : (Jvm.Cond.static ({ cls := "RainCellarLaw", name := "hail", desc := "(LRainCellar;II)I" } : Jvm.MethodName)) ∈ rc_big := rc_mem (rc_m4 76 (by decide +kernel)) rfl
theorem tw_4_77 : (Jvm.Cond.codeWith ({ cls := "RainCellarLaw", name := "hail", desc := "(LRainCellar;II)I" } : Jvm.MethodName) method_8_code (4 : Nat) (Option.some Jvm.ClassFile.FieldType.int) [((0 : Nat), (6 : Nat), (7 : Nat), (20 : Nat))]) ∈ rc_big := rc_mem (rc_m4 77 (by decide +kernel)) rfl
theorem tw_4_8 : (Jvm.Cond.selects "RainCellar" ({ cls := "RainCellar", name := "year", desc := "()I" } : Jvm.MethodName) ({ cls := "RainCellar", name := "year", desc := "()I" } : Jvm.MethodName)) ∈ rc_big := rc_mem (rc_m4 8 (by decide +kernel)) rfl
theorem tw_4_9 : (Jvm.Cond.code ({ cls := "RainCellar", name := "year", desc := "()I" } : Jvm.MethodName) prog_1_method_11_code (2 : Nat) (Option.some Jvm.ClassFile.FieldType.int)) ∈ rc_big := rc_mem (rc_m4 9 (by decide +kernel)) rfl
theorem tw_4_91 : (Jvm.Cond.methodLink "RainCellarLaw" (212 : Nat) ({ cls := "RainCellarLaw", name := "drink", desc := "(LRainCellar;I)I" } : Jvm.MethodName)) ∈ rc_big := rc_mem (rc_m4 91 (by decide +kernel)) rfl
theorem tw_4_92 : (Jvm.Cond.static ({ cls := "RainCellarLaw", name := "drink", desc := "(LRainCellar;I)I" } : Jvm.MethodName)) ∈ rc_big := rc_mem (rc_m4 92 (by decide +kernel)) rfl
theorem tw_4_93 : (Jvm.Cond.codeWith ({ cls := "RainCellarLaw", name := "drink", desc := "(LRainCellar;I)I" } : Jvm.MethodName) method_11_code (3 : Nat) (Option.some Jvm.ClassFile.FieldType.int) [((0 : Nat), (5 : Nat), (6 : Nat), (20 : Nat))]) ∈ rc_big := rc_mem (rc_m4 93 (by decide +kernel)) rfl
theorem tw_5_112 : (Jvm.Cond.methodLink "RainCellarLaw" (246 : Nat) ({ cls := "RainCellarLaw", name := "reads", desc := "(LRainCellar;Ljava/lang/String;)I" } : Jvm.MethodName)) ∈ rc_big := rc_mem (rc_m5 112 (by decide +kernel)) rfl
theorem tw_5_113 : (Jvm.Cond.static ({ cls := "RainCellarLaw", name := "reads", desc := "(LRainCellar;Ljava/lang/String;)I" } : Jvm.MethodName)) ∈ rc_big := rc_mem (rc_m5 113 (by decide +kernel)) rfl
theorem tw_5_114 : (Jvm.Cond.code ({ cls := "RainCellarLaw", name := "reads", desc := "(LRainCellar;Ljava/lang/String;)I" } : Jvm.MethodName) method_38_code (4 : Nat) (Option.some Jvm.ClassFile.FieldType.int)) ∈ rc_big := rc_mem (rc_m5 114 (by decide +kernel)) rfl
theorem tw_5_15 : (Jvm.Cond.methodLink "RainCellarLaw" (227 : Nat) ({ cls := "java/lang/StringBuilder", name := "append", desc := "(I)Ljava/lang/StringBuilder;" } : Jvm.MethodName)) ∈ rc_big := rc_mem (rc_m5 15 (by decide +kernel)) rfl
theorem tw_5_41 : (Jvm.Cond.methodLink "RainCellarLaw" (232 : Nat) ({ cls := "java/lang/StringBuilder", name := "toString", desc := "()Ljava/lang/String;" } : Jvm.MethodName)) ∈ rc_big := rc_mem (rc_m5 41 (by decide +kernel)) rfl
theorem tw_5_42 : (Jvm.Cond.instanceMethod ({ cls := "java/lang/StringBuilder", name := "toString", desc := "()Ljava/lang/String;" } : Jvm.MethodName)) ∈ rc_big := rc_mem (rc_m5 42 (by decide +kernel)) rfl
theorem tw_5_43 : (Jvm.Cond.selects "java/lang/StringBuilder" ({ cls := "java/lang/StringBuilder", name := "toString", desc := "()Ljava/lang/String;" } : Jvm.MethodName) ({ cls := "java/lang/StringBuilder", name := "toString", desc := "()Ljava/lang/String;" } : Jvm.MethodName)) ∈ rc_big := rc_mem (rc_m5 43 (by decide +kernel)) rfl
theorem tw_5_44 : (Jvm.Cond.code ({ cls := "java/lang/StringBuilder", name := "toString", desc := "()Ljava/lang/String;" } : Jvm.MethodName) prog_30_method_42_code (1 : Nat) (Option.some (Jvm.ClassFile.FieldType.object "java/lang/String"))) ∈ rc_big := rc_mem (rc_m5 44 (by decide +kernel)) rfl
def f_L_does (rf : rc_F) (z : rc_Z) (u1 : Int32) (u2 : Int32) (a3 : Nat) (u4 : Int32) (u5 : Int32) (σ : rc_S) : Option (Int32 × rc_S) :=
  rc_bd (f_L_pick rf z (u1 + (1 : Int32)) (1000 : Int32) σ) fun w_1 σ_1 =>
  rc_bd (f_L_account rf z a3 (0 : Int32) σ_1) fun w_2 σ_2 =>
  rc_ck (decide (¬ (w_2 + (1 : Int32)) = 0)) <|
  rc_lt (w_1 - w_1 / (w_2 + (1 : Int32)) * (w_2 + (1 : Int32))) fun v7_4 =>
  if u2 = (0 : Int32) then
    rc_bd (f_L_barrel rf z a3 (w_1 - w_1 / (5 : Int32) * (5 : Int32)) σ_2) fun w_6 σ_6 =>
    some (w_6, σ_6)
  else
  if u2 = (1 : Int32) then
    rc_bd (f_L_barrel rf z a3 (w_1 - w_1 / (5 : Int32) * (5 : Int32)) σ_2) fun w_8 σ_8 =>
    some (w_8, σ_8)
  else
  if u2 = (2 : Int32) then
    rc_bd (f_L_barrel rf z a3 (w_1 - w_1 / (5 : Int32) * (5 : Int32)) σ_2) fun w_10 σ_10 =>
    some (w_10, σ_10)
  else
  if u2 = (3 : Int32) then
    rc_bd (f_L_storm rf z a3 u5 (w_1 - w_1 / (4 : Int32) * (4 : Int32)) σ_2) fun w_12 σ_12 =>
    some (w_12, σ_12)
  else
  if u2 = (4 : Int32) then
    rc_bd (f_L_storm rf z a3 u5 (w_1 - w_1 / (4 : Int32) * (4 : Int32)) σ_2) fun w_14 σ_14 =>
    some (w_14, σ_14)
  else
  if u2 = (5 : Int32) then
    rc_bd (f_L_storm rf z a3 u5 (w_1 - w_1 / (4 : Int32) * (4 : Int32)) σ_2) fun w_16 σ_16 =>
    some (w_16, σ_16)
  else
  if u2 = (6 : Int32) then
    rc_bd (f_L_storm rf z a3 u5 (w_1 - w_1 / (4 : Int32) * (4 : Int32)) σ_2) fun w_18 σ_18 =>
    some (w_18, σ_18)
  else
  if u2 = (7 : Int32) then
    rc_bd (f_X8_year rf a3 σ_2) fun w_20 σ_20 =>
    some (w_20, σ_20)
  else
  if u2 = (8 : Int32) then
    rc_bd (f_X8_year rf a3 σ_2) fun w_22 σ_22 =>
    some (w_22, σ_22)
  else
  if u2 = (9 : Int32) then
    rc_jn (fun (w_199_24 : Int32) (σ_25 : rc_S) =>
      rc_bd (f_L_sommelier rf z a3 (w_1 - w_1 / (11 : Int32) * (11 : Int32)) w_199_24 σ_25) fun w_26 σ_26 =>
      some (w_26, σ_26)
    ) fun J_199 =>
    if (w_1 - w_1 / (3 : Int32) * (3 : Int32)) = 0 then
      J_199 (1 : Int32) σ_2
    else
      J_199 (0 : Int32) σ_2
  else
  if u2 = (10 : Int32) then
    rc_jn (fun (w_199_29 : Int32) (σ_30 : rc_S) =>
      rc_bd (f_L_sommelier rf z a3 (w_1 - w_1 / (11 : Int32) * (11 : Int32)) w_199_29 σ_30) fun w_31 σ_31 =>
      some (w_31, σ_31)
    ) fun J_199 =>
    if (w_1 - w_1 / (3 : Int32) * (3 : Int32)) = 0 then
      J_199 (1 : Int32) σ_2
    else
      J_199 (0 : Int32) σ_2
  else
  if u2 = (11 : Int32) then
    rc_bd (f_L_leave rf z a3 (w_1 - w_1 / (5 : Int32) * (5 : Int32)) σ_2) fun w_34 σ_34 =>
    some (w_34, σ_34)
  else
  if u2 = (12 : Int32) then
    rc_bd (f_L_clear rf z a3 (w_1 - w_1 / (5 : Int32) * (5 : Int32)) σ_2) fun w_36 σ_36 =>
    some (w_36, σ_36)
  else
  if u2 = (13 : Int32) then
    rc_bd (f_L_takeAway rf z a3 u4 σ_2) fun w_38 σ_38 =>
    some (w_38, σ_38)
  else
  if u2 = (14 : Int32) then
    rc_bd (f_L_hail rf z a3 u4 ((1 : Int32) + (w_1 - w_1 / (8 : Int32) * (8 : Int32))) σ_2) fun w_40 σ_40 =>
    some (w_40, σ_40)
  else
  if u2 = (15 : Int32) then
    rc_bd (f_L_hail rf z a3 u4 ((1 : Int32) + (w_1 - w_1 / (8 : Int32) * (8 : Int32))) σ_2) fun w_42 σ_42 =>
    some (w_42, σ_42)
  else
  if u2 = (16 : Int32) then
    rc_bd (f_L_hail rf z a3 u4 ((1 : Int32) + (w_1 - w_1 / (8 : Int32) * (8 : Int32))) σ_2) fun w_44 σ_44 =>
    some (w_44, σ_44)
  else
  if u2 = (17 : Int32) then
    rc_bd (f_L_hail rf z a3 u4 ((1 : Int32) + (w_1 - w_1 / (8 : Int32) * (8 : Int32))) σ_2) fun w_46 σ_46 =>
    some (w_46, σ_46)
  else
  if u2 = (18 : Int32) then
    rc_bd (f_L_hail rf z a3 u4 ((1 : Int32) + (w_1 - w_1 / (8 : Int32) * (8 : Int32))) σ_2) fun w_48 σ_48 =>
    some (w_48, σ_48)
  else
  if u2 = (19 : Int32) then
    rc_bd (f_L_hail rf z a3 u4 ((1 : Int32) + (w_1 - w_1 / (8 : Int32) * (8 : Int32))) σ_2) fun w_50 σ_50 =>
    some (w_50, σ_50)
  else
  if u2 = (20 : Int32) then
    rc_bd (f_L_drink rf z a3 u4 σ_2) fun w_52 σ_52 =>
    some (w_52, σ_52)
  else
  if u2 = (21 : Int32) then
    rc_bd (f_L_drink rf z a3 u4 σ_2) fun w_54 σ_54 =>
    some (w_54, σ_54)
  else
  if u2 = (22 : Int32) then
    rc_bd (f_L_drink rf z a3 u4 σ_2) fun w_56 σ_56 =>
    some (w_56, σ_56)
  else
  if u2 = (23 : Int32) then
    rc_bd (f_L_drink rf z a3 u4 σ_2) fun w_58 σ_58 =>
    some (w_58, σ_58)
  else
  if u2 = (24 : Int32) then
    rc_bd (f_L_drink rf z a3 u4 σ_2) fun w_60 σ_60 =>
    some (w_60, σ_60)
  else
  if u2 = (25 : Int32) then
    rc_bd (f_L_pour rf z a3 u4 v7_4 ((1 : Int32) + (w_1 - w_1 / (11 : Int32) * (11 : Int32))) σ_2) fun w_62 σ_62 =>
    some (w_62, σ_62)
  else
  if u2 = (26 : Int32) then
    rc_bd (f_L_pour rf z a3 u4 v7_4 ((1 : Int32) + (w_1 - w_1 / (11 : Int32) * (11 : Int32))) σ_2) fun w_64 σ_64 =>
    some (w_64, σ_64)
  else
  if u2 = (27 : Int32) then
    rc_bd (f_L_pour rf z a3 u4 v7_4 ((1 : Int32) + (w_1 - w_1 / (11 : Int32) * (11 : Int32))) σ_2) fun w_66 σ_66 =>
    some (w_66, σ_66)
  else
  if u2 = (28 : Int32) then
    rc_bd (f_L_pour rf z a3 u4 v7_4 ((1 : Int32) + (w_1 - w_1 / (11 : Int32) * (11 : Int32))) σ_2) fun w_68 σ_68 =>
    some (w_68, σ_68)
  else
  if (w_1 - w_1 / (4 : Int32) * (4 : Int32)) = 0 then
    rc_ck (rc_sm u5) <|
    f_L_reads rf z a3 (tx0 u5.toNatClampNeg) σ_2
  else
    if (w_1 - w_1 / (4 : Int32) * (4 : Int32)) = (1 : Int32) then
      rc_ck (rc_sm u4) <|
      f_L_reads rf z a3 (tx1 u4.toNatClampNeg) σ_2
    else
      if (w_1 - w_1 / (4 : Int32) * (4 : Int32)) = (2 : Int32) then
        rc_ck (rc_sm u4) <|
        rc_ck (rc_sm v7_4) <|
        rc_ck (rc_sm ((1 : Int32) + (w_1 - w_1 / (7 : Int32) * (7 : Int32)))) <|
        f_L_reads rf z a3 (tx2 u4.toNatClampNeg v7_4.toNatClampNeg ((1 : Int32) + (w_1 - w_1 / (7 : Int32) * (7 : Int32))).toNatClampNeg) σ_2
      else
        f_L_reads rf z a3 tx3 σ_2
set_option maxHeartbeats 8000000 in
set_option maxRecDepth 100000 in
theorem k_L_does (l : Launch) (hl9 : l.stackTraces = false) {Y : rc_Y} {sh : Nat → Nat} {rf : rc_F} (hT : rc_T Y sh rf) (z : rc_Z) (u1 : Int32) (u2 : Int32) (a3 : Nat) (u4 : Int32) (u5 : Int32) (h3 : sh a3 = 9) (sz : Nat) (σ σ' : rc_S) (r : Int32) (hm : f_L_does rf z u1 u2 a3 u4 u5 σ = some (r, σ')) : Met l yL_does (Cond.code yL_does cL_does 8 (some .int) :: rc_big) ({ frames := 10, cells := 18, slots := 122, locals := 233 } : Room) (rc_PL Y sh rf σ sz z [.ref z.1, .int u1, .int u2, .ref a3, .int u4, .int u5]) (va_Qi (fun (r' : Int32) (_ : Unit) => r' = r) (fun _ t => rc_W Y sh rf σ' t.heap) (rc_A sh sz)) 18 122 (rc_A sh sz) := by
  refine Met.ofW (cc := cL_does) (maxL := 8) (ret := (some .int)) (by decide +kernel) rfl ?_
  intro p e s m args below meth c s₁ B hml hv
  obtain ⟨rfl, hsz, ⟨hW, hK, hE⟩, hN, hXz⟩ := hv
  have hx := B.exec
  have hb := B.bytes
  have hr := B.returns
  have hts : ∀ w ∈ rc_big, w.before _ s = true := fun w h => atoms_spec (ws := Cond.code yL_does cL_does 8 (some .int) :: rc_big) B.pre w (List.mem_cons_of_mem _ h)
  have hown : s.vm.findClass RL = some m.cls := findClass_of_methodNamed B.named
  have hlocks := B.notSynchronized
  clear B
  subst hsz
  have hS : va_S (rc_A sh s.heap.size) s.heap s.heap [] := va_S.rf
  have hl := lv_entry ([.ref z.1, .int u1, .int u2, .ref a3, .int u4, .int u5]) (n := 8) (Nat.le_of_ble_eq_true rfl)
  rw [lg_entry_eq]
  generalize (lg_sl ([.ref z.1, .int u1, .int u2, .ref a3, .int u4, .int u5]) ++ List.replicate (8 - (lg_sl ([.ref z.1, .int u1, .int u2, .ref a3, .int u4, .int u5])).length) Slot.unset).toArray = ls at hl ⊢
  have hl : lv_has ls 8 [(0, .ref z.1), (1, .int u1), (2, .int u2), (3, .ref a3), (4, .int u4), (5, .int u5)] := hl
  unfold f_L_does at hm
  refine lv_aload_n hx hb dL_does_0 rfl (lv_at hl 0 rfl) ?_
  refine lv_iload_n hx hb dL_does_1 rfl (lv_at hl 1 rfl) ?_
  refine lv_iconst (v := 1) hx hb dL_does_2 (by decide) ?_
  refine lv_iadd hx hb dL_does_3 ?_
  refine lv_sipush (v := 1000) hx hb dL_does_4 (by decide) ?_
  obtain ⟨w_1, σ_1, hc_1, hm0⟩ := rc_bd_inv hm
  clear hm
  refine rc_ci hS (va_runS (As := [.ref z.1, .int (u1 + (1 : Int32)), .int (1000 : Int32)]) (rest := []) ⟨hx, hb, hml, hown, hts⟩ (k_L_pick l hl9 hT z (u1 + (1 : Int32)) (1000 : Int32) s.heap.size _ _ _ hc_1) (va_cwS 3 hts (rc_gS tw_2_110 tw_2_111 tw_1_0 tw_2_112) rfl rfl rfl (by decide +kernel) ⟨Nat.le_of_ble_eq_true rfl, Nat.le_of_ble_eq_true rfl⟩) (rc_preSL hT hW hK hE hN hXz hS [.ref z.1, .int (u1 + (1 : Int32)), .int (1000 : Int32)]) rfl rfl hl.1 rfl (lv_room (Nat.le_of_ble_eq_true rfl)) dL_does_7 ⟨show 0 + 0 ≤ 18 from by omega, show 0 + 0 ≤ 122 from by omega⟩) (fun H locs hW hS => ?_)
  have hm := hm0
  clear hm0 hc_1
  refine lv_istore (lv' := [(6, .int w_1), (0, .ref z.1), (1, .int u1), (2, .int u2), (3, .ref a3), (4, .int u4), (5, .int u5)]) hx hb dL_does_10 hl (by decide) rfl (fun ls hl => ?_)
  refine lv_iload hx hb dL_does_12 (lv_at hl 0 rfl) ?_
  refine lv_aload_n hx hb dL_does_14 rfl (lv_at hl 4 rfl) ?_
  refine lv_iconst (v := 0) hx hb dL_does_15 (by decide) ?_
  obtain ⟨w_2, σ_2, hc_2, hm0⟩ := rc_bd_inv hm
  clear hm
  refine rc_ci hS (vx_runSW (As := [.ref a3, .int (0 : Int32)]) (rest := [.int w_1]) ⟨hx, hb, hml, hown, hts⟩ (k_L_account l hl9 hT z a3 (0 : Int32) h3 H.size _ _ _ hc_2) (vx_cwSW 2 hts (rc_gS tw_3_118 tw_3_119 tw_1_0 tw_3_120) rfl rfl rfl (by decide +kernel) ⟨Nat.le_of_ble_eq_true rfl, Nat.le_of_ble_eq_true rfl⟩) (rc_preSL hT hW hK hE hN hXz hS [.ref a3, .int (0 : Int32)]) rfl rfl hl.1 rfl (lv_room (Nat.le_of_ble_eq_true rfl)) dL_does_16 ⟨show 0 + 0 + 1 ≤ 18 from by omega, show 0 + 0 + 6 ≤ 122 from by omega⟩) (fun H locs hW hS => ?_)
  have hm := hm0
  clear hm0 hc_2
  refine lv_iconst (v := 1) hx hb dL_does_19 (by decide) ?_
  refine lv_iadd hx hb dL_does_20 ?_
  have hz_3 := (rc_nz hm).1
  replace hm := (rc_nz hm).2
  refine lv_irem hx hb dL_does_21 hz_3 ?_
  refine lv_topi (fun v7_4 ev => ?_)
  replace hm := rc_lt_at hm ev
  clear ev
  refine lv_istore (lv' := [(7, .int v7_4), (6, .int w_1), (0, .ref z.1), (1, .int u1), (2, .int u2), (3, .ref a3), (4, .int u4), (5, .int u5)]) hx hb dL_does_22 hl (by decide) rfl (fun ls hl => ?_)
  refine lv_iload_n hx hb dL_does_24 rfl (lv_at hl 4 rfl) ?_
  by_cases c_5 : u2 = (0 : Int32)
  · replace hm := rc_t hm c_5
    refine lv_tableIn (off := 131) (tgt := 156) hx hb dL_does_25 (by rw [c_5]; decide) (by rw [c_5]; decide) (by rw [c_5]; decide) (by decide) ?_
    refine lv_aload_n hx hb dL_does_156 rfl (lv_at hl 5 rfl) ?_
    refine lv_iload hx hb dL_does_157 (lv_at hl 1 rfl) ?_
    refine lv_iconst (v := 5) hx hb dL_does_159 (by decide) ?_
    refine lv_irem hx hb dL_does_160 (by decide) ?_
    obtain ⟨w_6, σ_6, hc_6, hm0⟩ := rc_bd_inv hm
    clear hm
    refine rc_ci hS (vx_runSW (As := [.ref a3, .int (w_1 - w_1 / (5 : Int32) * (5 : Int32))]) (rest := []) ⟨hx, hb, hml, hown, hts⟩ (k_L_barrel l hl9 hT z a3 (w_1 - w_1 / (5 : Int32) * (5 : Int32)) h3 H.size _ _ _ hc_6) (vx_cwSW 2 hts (rc_gS tw_3_132 tw_3_133 tw_1_0 tw_3_134) rfl rfl rfl (by decide +kernel) ⟨Nat.le_of_ble_eq_true rfl, Nat.le_of_ble_eq_true rfl⟩) (rc_preSL hT hW hK hE hN hXz hS [.ref a3, .int (w_1 - w_1 / (5 : Int32) * (5 : Int32))]) rfl rfl hl.1 rfl (lv_room (Nat.le_of_ble_eq_true rfl)) dL_does_161 ⟨show 0 + 0 + 1 + 1 ≤ 18 from by omega, show 0 + 0 + 6 + 6 ≤ 122 from by omega⟩) (fun H locs hW hS => ?_)
    have hm := hm0
    clear hm0 hc_6
    exact rc_eiret hx hb hr hlocks hW hS (by omega) (by omega) hm dL_does_164
  replace hm := rc_f hm c_5
  by_cases c_7 : u2 = (1 : Int32)
  · replace hm := rc_t hm c_7
    refine lv_tableIn (off := 131) (tgt := 156) hx hb dL_does_25 (by rw [c_7]; decide) (by rw [c_7]; decide) (by rw [c_7]; decide) (by decide) ?_
    refine lv_aload_n hx hb dL_does_156 rfl (lv_at hl 5 rfl) ?_
    refine lv_iload hx hb dL_does_157 (lv_at hl 1 rfl) ?_
    refine lv_iconst (v := 5) hx hb dL_does_159 (by decide) ?_
    refine lv_irem hx hb dL_does_160 (by decide) ?_
    obtain ⟨w_8, σ_8, hc_8, hm0⟩ := rc_bd_inv hm
    clear hm
    refine rc_ci hS (vx_runSW (As := [.ref a3, .int (w_1 - w_1 / (5 : Int32) * (5 : Int32))]) (rest := []) ⟨hx, hb, hml, hown, hts⟩ (k_L_barrel l hl9 hT z a3 (w_1 - w_1 / (5 : Int32) * (5 : Int32)) h3 H.size _ _ _ hc_8) (vx_cwSW 2 hts (rc_gS tw_3_132 tw_3_133 tw_1_0 tw_3_134) rfl rfl rfl (by decide +kernel) ⟨Nat.le_of_ble_eq_true rfl, Nat.le_of_ble_eq_true rfl⟩) (rc_preSL hT hW hK hE hN hXz hS [.ref a3, .int (w_1 - w_1 / (5 : Int32) * (5 : Int32))]) rfl rfl hl.1 rfl (lv_room (Nat.le_of_ble_eq_true rfl)) dL_does_161 ⟨show 0 + 0 + 1 + 1 ≤ 18 from by omega, show 0 + 0 + 6 + 6 ≤ 122 from by omega⟩) (fun H locs hW hS => ?_)
    have hm := hm0
    clear hm0 hc_8
    exact rc_eiret hx hb hr hlocks hW hS (by omega) (by omega) hm dL_does_164
  replace hm := rc_f hm c_7
  by_cases c_9 : u2 = (2 : Int32)
  · replace hm := rc_t hm c_9
    refine lv_tableIn (off := 131) (tgt := 156) hx hb dL_does_25 (by rw [c_9]; decide) (by rw [c_9]; decide) (by rw [c_9]; decide) (by decide) ?_
    refine lv_aload_n hx hb dL_does_156 rfl (lv_at hl 5 rfl) ?_
    refine lv_iload hx hb dL_does_157 (lv_at hl 1 rfl) ?_
    refine lv_iconst (v := 5) hx hb dL_does_159 (by decide) ?_
    refine lv_irem hx hb dL_does_160 (by decide) ?_
    obtain ⟨w_10, σ_10, hc_10, hm0⟩ := rc_bd_inv hm
    clear hm
    refine rc_ci hS (vx_runSW (As := [.ref a3, .int (w_1 - w_1 / (5 : Int32) * (5 : Int32))]) (rest := []) ⟨hx, hb, hml, hown, hts⟩ (k_L_barrel l hl9 hT z a3 (w_1 - w_1 / (5 : Int32) * (5 : Int32)) h3 H.size _ _ _ hc_10) (vx_cwSW 2 hts (rc_gS tw_3_132 tw_3_133 tw_1_0 tw_3_134) rfl rfl rfl (by decide +kernel) ⟨Nat.le_of_ble_eq_true rfl, Nat.le_of_ble_eq_true rfl⟩) (rc_preSL hT hW hK hE hN hXz hS [.ref a3, .int (w_1 - w_1 / (5 : Int32) * (5 : Int32))]) rfl rfl hl.1 rfl (lv_room (Nat.le_of_ble_eq_true rfl)) dL_does_161 ⟨show 0 + 0 + 1 + 1 ≤ 18 from by omega, show 0 + 0 + 6 + 6 ≤ 122 from by omega⟩) (fun H locs hW hS => ?_)
    have hm := hm0
    clear hm0 hc_10
    exact rc_eiret hx hb hr hlocks hW hS (by omega) (by omega) hm dL_does_164
  replace hm := rc_f hm c_9
  by_cases c_11 : u2 = (3 : Int32)
  · replace hm := rc_t hm c_11
    refine lv_tableIn (off := 140) (tgt := 165) hx hb dL_does_25 (by rw [c_11]; decide) (by rw [c_11]; decide) (by rw [c_11]; decide) (by decide) ?_
    refine lv_aload_n hx hb dL_does_165 rfl (lv_at hl 5 rfl) ?_
    refine lv_iload hx hb dL_does_166 (lv_at hl 7 rfl) ?_
    refine lv_iload hx hb dL_does_168 (lv_at hl 1 rfl) ?_
    refine lv_iconst (v := 4) hx hb dL_does_170 (by decide) ?_
    refine lv_irem hx hb dL_does_171 (by decide) ?_
    obtain ⟨w_12, σ_12, hc_12, hm0⟩ := rc_bd_inv hm
    clear hm
    refine rc_ci hS (vx_runSW (As := [.ref a3, .int u5, .int (w_1 - w_1 / (4 : Int32) * (4 : Int32))]) (rest := []) ⟨hx, hb, hml, hown, hts⟩ (k_L_storm l hl9 hT z a3 u5 (w_1 - w_1 / (4 : Int32) * (4 : Int32)) h3 H.size _ _ _ hc_12) (vx_cwSW 3 hts (rc_gS tw_3_215 tw_3_216 tw_1_0 tw_3_217) rfl rfl rfl (by decide +kernel) ⟨Nat.le_of_ble_eq_true rfl, Nat.le_of_ble_eq_true rfl⟩) (rc_preSL hT hW hK hE hN hXz hS [.ref a3, .int u5, .int (w_1 - w_1 / (4 : Int32) * (4 : Int32))]) rfl rfl hl.1 rfl (lv_room (Nat.le_of_ble_eq_true rfl)) dL_does_172 ⟨show 0 + 0 + 1 + 1 ≤ 18 from by omega, show 0 + 0 + 6 + 6 ≤ 122 from by omega⟩) (fun H locs hW hS => ?_)
    have hm := hm0
    clear hm0 hc_12
    exact rc_eiret hx hb hr hlocks hW hS (by omega) (by omega) hm dL_does_175
  replace hm := rc_f hm c_11
  by_cases c_13 : u2 = (4 : Int32)
  · replace hm := rc_t hm c_13
    refine lv_tableIn (off := 140) (tgt := 165) hx hb dL_does_25 (by rw [c_13]; decide) (by rw [c_13]; decide) (by rw [c_13]; decide) (by decide) ?_
    refine lv_aload_n hx hb dL_does_165 rfl (lv_at hl 5 rfl) ?_
    refine lv_iload hx hb dL_does_166 (lv_at hl 7 rfl) ?_
    refine lv_iload hx hb dL_does_168 (lv_at hl 1 rfl) ?_
    refine lv_iconst (v := 4) hx hb dL_does_170 (by decide) ?_
    refine lv_irem hx hb dL_does_171 (by decide) ?_
    obtain ⟨w_14, σ_14, hc_14, hm0⟩ := rc_bd_inv hm
    clear hm
    refine rc_ci hS (vx_runSW (As := [.ref a3, .int u5, .int (w_1 - w_1 / (4 : Int32) * (4 : Int32))]) (rest := []) ⟨hx, hb, hml, hown, hts⟩ (k_L_storm l hl9 hT z a3 u5 (w_1 - w_1 / (4 : Int32) * (4 : Int32)) h3 H.size _ _ _ hc_14) (vx_cwSW 3 hts (rc_gS tw_3_215 tw_3_216 tw_1_0 tw_3_217) rfl rfl rfl (by decide +kernel) ⟨Nat.le_of_ble_eq_true rfl, Nat.le_of_ble_eq_true rfl⟩) (rc_preSL hT hW hK hE hN hXz hS [.ref a3, .int u5, .int (w_1 - w_1 / (4 : Int32) * (4 : Int32))]) rfl rfl hl.1 rfl (lv_room (Nat.le_of_ble_eq_true rfl)) dL_does_172 ⟨show 0 + 0 + 1 + 1 ≤ 18 from by omega, show 0 + 0 + 6 + 6 ≤ 122 from by omega⟩) (fun H locs hW hS => ?_)
    have hm := hm0
    clear hm0 hc_14
    exact rc_eiret hx hb hr hlocks hW hS (by omega) (by omega) hm dL_does_175
  replace hm := rc_f hm c_13
  by_cases c_15 : u2 = (5 : Int32)
  · replace hm := rc_t hm c_15
    refine lv_tableIn (off := 140) (tgt := 165) hx hb dL_does_25 (by rw [c_15]; decide) (by rw [c_15]; decide) (by rw [c_15]; decide) (by decide) ?_
    refine lv_aload_n hx hb dL_does_165 rfl (lv_at hl 5 rfl) ?_
    refine lv_iload hx hb dL_does_166 (lv_at hl 7 rfl) ?_
    refine lv_iload hx hb dL_does_168 (lv_at hl 1 rfl) ?_
    refine lv_iconst (v := 4) hx hb dL_does_170 (by decide) ?_
    refine lv_irem hx hb dL_does_171 (by decide) ?_
    obtain ⟨w_16, σ_16, hc_16, hm0⟩ := rc_bd_inv hm
    clear hm
    refine rc_ci hS (vx_runSW (As := [.ref a3, .int u5, .int (w_1 - w_1 / (4 : Int32) * (4 : Int32))]) (rest := []) ⟨hx, hb, hml, hown, hts⟩ (k_L_storm l hl9 hT z a3 u5 (w_1 - w_1 / (4 : Int32) * (4 : Int32)) h3 H.size _ _ _ hc_16) (vx_cwSW 3 hts (rc_gS tw_3_215 tw_3_216 tw_1_0 tw_3_217) rfl rfl rfl (by decide +kernel) ⟨Nat.le_of_ble_eq_true rfl, Nat.le_of_ble_eq_true rfl⟩) (rc_preSL hT hW hK hE hN hXz hS [.ref a3, .int u5, .int (w_1 - w_1 / (4 : Int32) * (4 : Int32))]) rfl rfl hl.1 rfl (lv_room (Nat.le_of_ble_eq_true rfl)) dL_does_172 ⟨show 0 + 0 + 1 + 1 ≤ 18 from by omega, show 0 + 0 + 6 + 6 ≤ 122 from by omega⟩) (fun H locs hW hS => ?_)
    have hm := hm0
    clear hm0 hc_16
    exact rc_eiret hx hb hr hlocks hW hS (by omega) (by omega) hm dL_does_175
  replace hm := rc_f hm c_15
  by_cases c_17 : u2 = (6 : Int32)
  · replace hm := rc_t hm c_17
    refine lv_tableIn (off := 140) (tgt := 165) hx hb dL_does_25 (by rw [c_17]; decide) (by rw [c_17]; decide) (by rw [c_17]; decide) (by decide) ?_
    refine lv_aload_n hx hb dL_does_165 rfl (lv_at hl 5 rfl) ?_
    refine lv_iload hx hb dL_does_166 (lv_at hl 7 rfl) ?_
    refine lv_iload hx hb dL_does_168 (lv_at hl 1 rfl) ?_
    refine lv_iconst (v := 4) hx hb dL_does_170 (by decide) ?_
    refine lv_irem hx hb dL_does_171 (by decide) ?_
    obtain ⟨w_18, σ_18, hc_18, hm0⟩ := rc_bd_inv hm
    clear hm
    refine rc_ci hS (vx_runSW (As := [.ref a3, .int u5, .int (w_1 - w_1 / (4 : Int32) * (4 : Int32))]) (rest := []) ⟨hx, hb, hml, hown, hts⟩ (k_L_storm l hl9 hT z a3 u5 (w_1 - w_1 / (4 : Int32) * (4 : Int32)) h3 H.size _ _ _ hc_18) (vx_cwSW 3 hts (rc_gS tw_3_215 tw_3_216 tw_1_0 tw_3_217) rfl rfl rfl (by decide +kernel) ⟨Nat.le_of_ble_eq_true rfl, Nat.le_of_ble_eq_true rfl⟩) (rc_preSL hT hW hK hE hN hXz hS [.ref a3, .int u5, .int (w_1 - w_1 / (4 : Int32) * (4 : Int32))]) rfl rfl hl.1 rfl (lv_room (Nat.le_of_ble_eq_true rfl)) dL_does_172 ⟨show 0 + 0 + 1 + 1 ≤ 18 from by omega, show 0 + 0 + 6 + 6 ≤ 122 from by omega⟩) (fun H locs hW hS => ?_)
    have hm := hm0
    clear hm0 hc_18
    exact rc_eiret hx hb hr hlocks hW hS (by omega) (by omega) hm dL_does_175
  replace hm := rc_f hm c_17
  by_cases c_19 : u2 = (7 : Int32)
  · replace hm := rc_t hm c_19
    refine lv_tableIn (off := 151) (tgt := 176) hx hb dL_does_25 (by rw [c_19]; decide) (by rw [c_19]; decide) (by rw [c_19]; decide) (by decide) ?_
    refine lv_aload_n hx hb dL_does_176 rfl (lv_at hl 5 rfl) ?_
    obtain ⟨w_20, σ_20, hc_20, hm0⟩ := rc_bd_inv hm
    clear hm
    refine rc_ci hS (va_runV (As := []) (rest := []) ⟨hx, hb, hml, hown, hts⟩ (k_X8_year l hT a3 h3 H.size _ _ _ hc_20) (cwV 0 hts (rc_gV tw_4_6 tw_4_7 tw_4_8 tw_1_1 tw_4_9) rfl rfl rfl (by decide +kernel) ⟨Nat.le_of_ble_eq_true rfl, Nat.le_of_ble_eq_true rfl⟩) (rc_preV hT hW hK hE hS h3 (by decide) rfl (q := (RX8, TX8, 9)) rfl []) rfl rfl hl.1 rfl (lv_room (Nat.le_of_ble_eq_true rfl)) dL_does_177 ⟨show 0 + 0 + 1 + 0 ≤ 18 from by omega, show 0 + 0 + 6 + 0 ≤ 122 from by omega⟩) (fun H locs hW hS => ?_)
    have hm := hm0
    clear hm0 hc_20
    exact rc_eiret hx hb hr hlocks hW hS (by omega) (by omega) hm dL_does_180
  replace hm := rc_f hm c_19
  by_cases c_21 : u2 = (8 : Int32)
  · replace hm := rc_t hm c_21
    refine lv_tableIn (off := 151) (tgt := 176) hx hb dL_does_25 (by rw [c_21]; decide) (by rw [c_21]; decide) (by rw [c_21]; decide) (by decide) ?_
    refine lv_aload_n hx hb dL_does_176 rfl (lv_at hl 5 rfl) ?_
    obtain ⟨w_22, σ_22, hc_22, hm0⟩ := rc_bd_inv hm
    clear hm
    refine rc_ci hS (va_runV (As := []) (rest := []) ⟨hx, hb, hml, hown, hts⟩ (k_X8_year l hT a3 h3 H.size _ _ _ hc_22) (cwV 0 hts (rc_gV tw_4_6 tw_4_7 tw_4_8 tw_1_1 tw_4_9) rfl rfl rfl (by decide +kernel) ⟨Nat.le_of_ble_eq_true rfl, Nat.le_of_ble_eq_true rfl⟩) (rc_preV hT hW hK hE hS h3 (by decide) rfl (q := (RX8, TX8, 9)) rfl []) rfl rfl hl.1 rfl (lv_room (Nat.le_of_ble_eq_true rfl)) dL_does_177 ⟨show 0 + 0 + 1 + 0 ≤ 18 from by omega, show 0 + 0 + 6 + 0 ≤ 122 from by omega⟩) (fun H locs hW hS => ?_)
    have hm := hm0
    clear hm0 hc_22
    exact rc_eiret hx hb hr hlocks hW hS (by omega) (by omega) hm dL_does_180
  replace hm := rc_f hm c_21
  by_cases c_23 : u2 = (9 : Int32)
  · replace hm := rc_t hm c_23
    refine lv_tableIn (off := 156) (tgt := 181) hx hb dL_does_25 (by rw [c_23]; decide) (by rw [c_23]; decide) (by rw [c_23]; decide) (by decide) ?_
    refine lv_aload_n hx hb dL_does_181 rfl (lv_at hl 5 rfl) ?_
    refine lv_iload hx hb dL_does_182 (lv_at hl 1 rfl) ?_
    refine lv_bipush (v := 11) hx hb dL_does_184 (by decide) ?_
    refine lv_irem hx hb dL_does_186 (by decide) ?_
    refine lv_iload hx hb dL_does_187 (lv_at hl 1 rfl) ?_
    refine lv_iconst (v := 3) hx hb dL_does_189 (by decide) ?_
    refine lv_irem hx hb dL_does_190 (by decide) ?_
    refine rc_jn_el hm (fun J => ∀ (w_199_24 : Int32) (σ_25 : rc_S) (H : Heap) (locs : List Loc) (ls : Array Slot), J w_199_24 σ_25 = some (r, σ') → rc_W Y sh rf σ_25 H → va_S (rc_A sh s.heap.size) s.heap H locs → lv_has ls 8 [] → W p l e (headSpec (Cond.code yL_does cL_does 8 (some .int) :: rc_big) ({ frames := 10, cells := 18, slots := 122, locals := 233 } : Room)).room s m (([.ref z.1, .int u1, .int u2, .ref a3, .int u4, .int u5] : List Value).toArray) below meth c H locs (0 + 0 + 1) (0 + 0 + 6) (MQ below (va_Qi (fun (r' : Int32) (_ : Unit) => r' = r) (fun _ t => rc_W Y sh rf σ' t.heap) (rc_A sh s.heap.size)) ([.ref z.1, .int u1, .int u2, .ref a3, .int u4, .int u5] : List Value).toArray s 18 122 (rc_A sh s.heap.size)) (F0 m 199 ls [.int w_199_24, .int (w_1 - w_1 / (11 : Int32) * (11 : Int32)), .ref a3])) ?_ (fun J_199 hJ_199 hm => ?_)
    · intro w_199_24 σ_25 H locs ls hm hW hS hl
      obtain ⟨w_26, σ_26, hc_26, hm0⟩ := rc_bd_inv hm
      clear hm
      refine rc_ci hS (vx_runSW (As := [.ref a3, .int (w_1 - w_1 / (11 : Int32) * (11 : Int32)), .int w_199_24]) (rest := []) ⟨hx, hb, hml, hown, hts⟩ (k_L_sommelier l hl9 hT z a3 (w_1 - w_1 / (11 : Int32) * (11 : Int32)) w_199_24 h3 H.size _ _ _ hc_26) (vx_cwSW 3 hts (rc_gS tw_4_14 tw_4_15 tw_1_0 tw_4_16) rfl rfl rfl (by decide +kernel) ⟨Nat.le_of_ble_eq_true rfl, Nat.le_of_ble_eq_true rfl⟩) (rc_preSL hT hW hK hE hN hXz hS [.ref a3, .int (w_1 - w_1 / (11 : Int32) * (11 : Int32)), .int w_199_24]) rfl rfl hl.1 rfl (lv_room (Nat.le_of_ble_eq_true rfl)) dL_does_199 ⟨show 0 + 0 + 1 + 1 ≤ 18 from by omega, show 0 + 0 + 6 + 6 ≤ 122 from by omega⟩) (fun H locs hW hS => ?_)
      have hm := hm0
      clear hm0 hc_26
      exact rc_eiret hx hb hr hlocks hW hS (by omega) (by omega) hm dL_does_202
    refine lv_if_ne (tgt := 198) hx hb dL_does_191 (by decide) (fun c_27 => ?_) (fun c_27 => ?_)
    · replace hm := rc_f hm c_27
      refine lv_iconst (v := 0) hx hb dL_does_198 (by decide) ?_
      refine W.widen (k := 0 + 0 + 1) (n := 0 + 0 + 6) (by omega) (by omega) ?_
      exact hJ_199 (0 : Int32) σ_2 _ _ _ hm hW hS (lv_sub hl [] rfl)
    · replace hm := rc_t hm c_27
      refine lv_iconst (v := 1) hx hb dL_does_194 (by decide) ?_
      refine lv_goto (tgt := 199) hx hb dL_does_195 (by decide) ?_
      refine W.widen (k := 0 + 0 + 1) (n := 0 + 0 + 6) (by omega) (by omega) ?_
      exact hJ_199 (1 : Int32) σ_2 _ _ _ hm hW hS (lv_sub hl [] rfl)
  replace hm := rc_f hm c_23
  by_cases c_28 : u2 = (10 : Int32)
  · replace hm := rc_t hm c_28
    refine lv_tableIn (off := 156) (tgt := 181) hx hb dL_does_25 (by rw [c_28]; decide) (by rw [c_28]; decide) (by rw [c_28]; decide) (by decide) ?_
    refine lv_aload_n hx hb dL_does_181 rfl (lv_at hl 5 rfl) ?_
    refine lv_iload hx hb dL_does_182 (lv_at hl 1 rfl) ?_
    refine lv_bipush (v := 11) hx hb dL_does_184 (by decide) ?_
    refine lv_irem hx hb dL_does_186 (by decide) ?_
    refine lv_iload hx hb dL_does_187 (lv_at hl 1 rfl) ?_
    refine lv_iconst (v := 3) hx hb dL_does_189 (by decide) ?_
    refine lv_irem hx hb dL_does_190 (by decide) ?_
    refine rc_jn_el hm (fun J => ∀ (w_199_29 : Int32) (σ_30 : rc_S) (H : Heap) (locs : List Loc) (ls : Array Slot), J w_199_29 σ_30 = some (r, σ') → rc_W Y sh rf σ_30 H → va_S (rc_A sh s.heap.size) s.heap H locs → lv_has ls 8 [] → W p l e (headSpec (Cond.code yL_does cL_does 8 (some .int) :: rc_big) ({ frames := 10, cells := 18, slots := 122, locals := 233 } : Room)).room s m (([.ref z.1, .int u1, .int u2, .ref a3, .int u4, .int u5] : List Value).toArray) below meth c H locs (0 + 0 + 1) (0 + 0 + 6) (MQ below (va_Qi (fun (r' : Int32) (_ : Unit) => r' = r) (fun _ t => rc_W Y sh rf σ' t.heap) (rc_A sh s.heap.size)) ([.ref z.1, .int u1, .int u2, .ref a3, .int u4, .int u5] : List Value).toArray s 18 122 (rc_A sh s.heap.size)) (F0 m 199 ls [.int w_199_29, .int (w_1 - w_1 / (11 : Int32) * (11 : Int32)), .ref a3])) ?_ (fun J_199 hJ_199 hm => ?_)
    · intro w_199_29 σ_30 H locs ls hm hW hS hl
      obtain ⟨w_31, σ_31, hc_31, hm0⟩ := rc_bd_inv hm
      clear hm
      refine rc_ci hS (vx_runSW (As := [.ref a3, .int (w_1 - w_1 / (11 : Int32) * (11 : Int32)), .int w_199_29]) (rest := []) ⟨hx, hb, hml, hown, hts⟩ (k_L_sommelier l hl9 hT z a3 (w_1 - w_1 / (11 : Int32) * (11 : Int32)) w_199_29 h3 H.size _ _ _ hc_31) (vx_cwSW 3 hts (rc_gS tw_4_14 tw_4_15 tw_1_0 tw_4_16) rfl rfl rfl (by decide +kernel) ⟨Nat.le_of_ble_eq_true rfl, Nat.le_of_ble_eq_true rfl⟩) (rc_preSL hT hW hK hE hN hXz hS [.ref a3, .int (w_1 - w_1 / (11 : Int32) * (11 : Int32)), .int w_199_29]) rfl rfl hl.1 rfl (lv_room (Nat.le_of_ble_eq_true rfl)) dL_does_199 ⟨show 0 + 0 + 1 + 1 ≤ 18 from by omega, show 0 + 0 + 6 + 6 ≤ 122 from by omega⟩) (fun H locs hW hS => ?_)
      have hm := hm0
      clear hm0 hc_31
      exact rc_eiret hx hb hr hlocks hW hS (by omega) (by omega) hm dL_does_202
    refine lv_if_ne (tgt := 198) hx hb dL_does_191 (by decide) (fun c_32 => ?_) (fun c_32 => ?_)
    · replace hm := rc_f hm c_32
      refine lv_iconst (v := 0) hx hb dL_does_198 (by decide) ?_
      refine W.widen (k := 0 + 0 + 1) (n := 0 + 0 + 6) (by omega) (by omega) ?_
      exact hJ_199 (0 : Int32) σ_2 _ _ _ hm hW hS (lv_sub hl [] rfl)
    · replace hm := rc_t hm c_32
      refine lv_iconst (v := 1) hx hb dL_does_194 (by decide) ?_
      refine lv_goto (tgt := 199) hx hb dL_does_195 (by decide) ?_
      refine W.widen (k := 0 + 0 + 1) (n := 0 + 0 + 6) (by omega) (by omega) ?_
      exact hJ_199 (1 : Int32) σ_2 _ _ _ hm hW hS (lv_sub hl [] rfl)
  replace hm := rc_f hm c_28
  by_cases c_33 : u2 = (11 : Int32)
  · replace hm := rc_t hm c_33
    refine lv_tableIn (off := 178) (tgt := 203) hx hb dL_does_25 (by rw [c_33]; decide) (by rw [c_33]; decide) (by rw [c_33]; decide) (by decide) ?_
    refine lv_aload_n hx hb dL_does_203 rfl (lv_at hl 5 rfl) ?_
    refine lv_iload hx hb dL_does_204 (lv_at hl 1 rfl) ?_
    refine lv_iconst (v := 5) hx hb dL_does_206 (by decide) ?_
    refine lv_irem hx hb dL_does_207 (by decide) ?_
    obtain ⟨w_34, σ_34, hc_34, hm0⟩ := rc_bd_inv hm
    clear hm
    refine rc_ci hS (vx_runSW (As := [.ref a3, .int (w_1 - w_1 / (5 : Int32) * (5 : Int32))]) (rest := []) ⟨hx, hb, hml, hown, hts⟩ (k_L_leave l hl9 hT z a3 (w_1 - w_1 / (5 : Int32) * (5 : Int32)) h3 H.size _ _ _ hc_34) (vx_cwSW 2 hts (rc_gS tw_4_29 tw_4_30 tw_1_0 tw_4_31) rfl rfl rfl (by decide +kernel) ⟨Nat.le_of_ble_eq_true rfl, Nat.le_of_ble_eq_true rfl⟩) (rc_preSL hT hW hK hE hN hXz hS [.ref a3, .int (w_1 - w_1 / (5 : Int32) * (5 : Int32))]) rfl rfl hl.1 rfl (lv_room (Nat.le_of_ble_eq_true rfl)) dL_does_208 ⟨show 0 + 0 + 1 + 1 ≤ 18 from by omega, show 0 + 0 + 6 + 6 ≤ 122 from by omega⟩) (fun H locs hW hS => ?_)
    have hm := hm0
    clear hm0 hc_34
    exact rc_eiret hx hb hr hlocks hW hS (by omega) (by omega) hm dL_does_211
  replace hm := rc_f hm c_33
  by_cases c_35 : u2 = (12 : Int32)
  · replace hm := rc_t hm c_35
    refine lv_tableIn (off := 187) (tgt := 212) hx hb dL_does_25 (by rw [c_35]; decide) (by rw [c_35]; decide) (by rw [c_35]; decide) (by decide) ?_
    refine lv_aload_n hx hb dL_does_212 rfl (lv_at hl 5 rfl) ?_
    refine lv_iload hx hb dL_does_213 (lv_at hl 1 rfl) ?_
    refine lv_iconst (v := 5) hx hb dL_does_215 (by decide) ?_
    refine lv_irem hx hb dL_does_216 (by decide) ?_
    obtain ⟨w_36, σ_36, hc_36, hm0⟩ := rc_bd_inv hm
    clear hm
    refine rc_ci hS (vx_runSW (As := [.ref a3, .int (w_1 - w_1 / (5 : Int32) * (5 : Int32))]) (rest := []) ⟨hx, hb, hml, hown, hts⟩ (k_L_clear l hl9 hT z a3 (w_1 - w_1 / (5 : Int32) * (5 : Int32)) h3 H.size _ _ _ hc_36) (vx_cwSW 2 hts (rc_gS tw_4_48 tw_4_49 tw_1_0 tw_4_50) rfl rfl rfl (by decide +kernel) ⟨Nat.le_of_ble_eq_true rfl, Nat.le_of_ble_eq_true rfl⟩) (rc_preSL hT hW hK hE hN hXz hS [.ref a3, .int (w_1 - w_1 / (5 : Int32) * (5 : Int32))]) rfl rfl hl.1 rfl (lv_room (Nat.le_of_ble_eq_true rfl)) dL_does_217 ⟨show 0 + 0 + 1 + 1 ≤ 18 from by omega, show 0 + 0 + 6 + 6 ≤ 122 from by omega⟩) (fun H locs hW hS => ?_)
    have hm := hm0
    clear hm0 hc_36
    exact rc_eiret hx hb hr hlocks hW hS (by omega) (by omega) hm dL_does_220
  replace hm := rc_f hm c_35
  by_cases c_37 : u2 = (13 : Int32)
  · replace hm := rc_t hm c_37
    refine lv_tableIn (off := 196) (tgt := 221) hx hb dL_does_25 (by rw [c_37]; decide) (by rw [c_37]; decide) (by rw [c_37]; decide) (by decide) ?_
    refine lv_aload_n hx hb dL_does_221 rfl (lv_at hl 5 rfl) ?_
    refine lv_iload hx hb dL_does_222 (lv_at hl 6 rfl) ?_
    obtain ⟨w_38, σ_38, hc_38, hm0⟩ := rc_bd_inv hm
    clear hm
    refine rc_ci hS (vx_runSW (As := [.ref a3, .int u4]) (rest := []) ⟨hx, hb, hml, hown, hts⟩ (k_L_takeAway l hl9 hT z a3 u4 h3 H.size _ _ _ hc_38) (vx_cwSW 2 hts (rc_gS tw_4_59 tw_4_60 tw_1_0 tw_4_61) rfl rfl rfl (by decide +kernel) ⟨Nat.le_of_ble_eq_true rfl, Nat.le_of_ble_eq_true rfl⟩) (rc_preSL hT hW hK hE hN hXz hS [.ref a3, .int u4]) rfl rfl hl.1 rfl (lv_room (Nat.le_of_ble_eq_true rfl)) dL_does_224 ⟨show 0 + 0 + 1 + 1 ≤ 18 from by omega, show 0 + 0 + 6 + 6 ≤ 122 from by omega⟩) (fun H locs hW hS => ?_)
    have hm := hm0
    clear hm0 hc_38
    exact rc_eiret hx hb hr hlocks hW hS (by omega) (by omega) hm dL_does_227
  replace hm := rc_f hm c_37
  by_cases c_39 : u2 = (14 : Int32)
  · replace hm := rc_t hm c_39
    refine lv_tableIn (off := 203) (tgt := 228) hx hb dL_does_25 (by rw [c_39]; decide) (by rw [c_39]; decide) (by rw [c_39]; decide) (by decide) ?_
    refine lv_aload_n hx hb dL_does_228 rfl (lv_at hl 5 rfl) ?_
    refine lv_iload hx hb dL_does_229 (lv_at hl 6 rfl) ?_
    refine lv_iconst (v := 1) hx hb dL_does_231 (by decide) ?_
    refine lv_iload hx hb dL_does_232 (lv_at hl 1 rfl) ?_
    refine lv_bipush (v := 8) hx hb dL_does_234 (by decide) ?_
    refine lv_irem hx hb dL_does_236 (by decide) ?_
    refine lv_iadd hx hb dL_does_237 ?_
    obtain ⟨w_40, σ_40, hc_40, hm0⟩ := rc_bd_inv hm
    clear hm
    refine rc_ci hS (vx_runSW (As := [.ref a3, .int u4, .int ((1 : Int32) + (w_1 - w_1 / (8 : Int32) * (8 : Int32)))]) (rest := []) ⟨hx, hb, hml, hown, hts⟩ (k_L_hail l hl9 hT z a3 u4 ((1 : Int32) + (w_1 - w_1 / (8 : Int32) * (8 : Int32))) h3 H.size _ _ _ hc_40) (vx_cwSW 3 hts (rc_gS tw_4_75 tw_4_76 tw_1_0 tw_4_77) rfl rfl rfl (by decide +kernel) ⟨Nat.le_of_ble_eq_true rfl, Nat.le_of_ble_eq_true rfl⟩) (rc_preSL hT hW hK hE hN hXz hS [.ref a3, .int u4, .int ((1 : Int32) + (w_1 - w_1 / (8 : Int32) * (8 : Int32)))]) rfl rfl hl.1 rfl (lv_room (Nat.le_of_ble_eq_true rfl)) dL_does_238 ⟨show 0 + 0 + 1 + 1 ≤ 18 from by omega, show 0 + 0 + 6 + 6 ≤ 122 from by omega⟩) (fun H locs hW hS => ?_)
    have hm := hm0
    clear hm0 hc_40
    exact rc_eiret hx hb hr hlocks hW hS (by omega) (by omega) hm dL_does_241
  replace hm := rc_f hm c_39
  by_cases c_41 : u2 = (15 : Int32)
  · replace hm := rc_t hm c_41
    refine lv_tableIn (off := 203) (tgt := 228) hx hb dL_does_25 (by rw [c_41]; decide) (by rw [c_41]; decide) (by rw [c_41]; decide) (by decide) ?_
    refine lv_aload_n hx hb dL_does_228 rfl (lv_at hl 5 rfl) ?_
    refine lv_iload hx hb dL_does_229 (lv_at hl 6 rfl) ?_
    refine lv_iconst (v := 1) hx hb dL_does_231 (by decide) ?_
    refine lv_iload hx hb dL_does_232 (lv_at hl 1 rfl) ?_
    refine lv_bipush (v := 8) hx hb dL_does_234 (by decide) ?_
    refine lv_irem hx hb dL_does_236 (by decide) ?_
    refine lv_iadd hx hb dL_does_237 ?_
    obtain ⟨w_42, σ_42, hc_42, hm0⟩ := rc_bd_inv hm
    clear hm
    refine rc_ci hS (vx_runSW (As := [.ref a3, .int u4, .int ((1 : Int32) + (w_1 - w_1 / (8 : Int32) * (8 : Int32)))]) (rest := []) ⟨hx, hb, hml, hown, hts⟩ (k_L_hail l hl9 hT z a3 u4 ((1 : Int32) + (w_1 - w_1 / (8 : Int32) * (8 : Int32))) h3 H.size _ _ _ hc_42) (vx_cwSW 3 hts (rc_gS tw_4_75 tw_4_76 tw_1_0 tw_4_77) rfl rfl rfl (by decide +kernel) ⟨Nat.le_of_ble_eq_true rfl, Nat.le_of_ble_eq_true rfl⟩) (rc_preSL hT hW hK hE hN hXz hS [.ref a3, .int u4, .int ((1 : Int32) + (w_1 - w_1 / (8 : Int32) * (8 : Int32)))]) rfl rfl hl.1 rfl (lv_room (Nat.le_of_ble_eq_true rfl)) dL_does_238 ⟨show 0 + 0 + 1 + 1 ≤ 18 from by omega, show 0 + 0 + 6 + 6 ≤ 122 from by omega⟩) (fun H locs hW hS => ?_)
    have hm := hm0
    clear hm0 hc_42
    exact rc_eiret hx hb hr hlocks hW hS (by omega) (by omega) hm dL_does_241
  replace hm := rc_f hm c_41
  by_cases c_43 : u2 = (16 : Int32)
  · replace hm := rc_t hm c_43
    refine lv_tableIn (off := 203) (tgt := 228) hx hb dL_does_25 (by rw [c_43]; decide) (by rw [c_43]; decide) (by rw [c_43]; decide) (by decide) ?_
    refine lv_aload_n hx hb dL_does_228 rfl (lv_at hl 5 rfl) ?_
    refine lv_iload hx hb dL_does_229 (lv_at hl 6 rfl) ?_
    refine lv_iconst (v := 1) hx hb dL_does_231 (by decide) ?_
    refine lv_iload hx hb dL_does_232 (lv_at hl 1 rfl) ?_
    refine lv_bipush (v := 8) hx hb dL_does_234 (by decide) ?_
    refine lv_irem hx hb dL_does_236 (by decide) ?_
    refine lv_iadd hx hb dL_does_237 ?_
    obtain ⟨w_44, σ_44, hc_44, hm0⟩ := rc_bd_inv hm
    clear hm
    refine rc_ci hS (vx_runSW (As := [.ref a3, .int u4, .int ((1 : Int32) + (w_1 - w_1 / (8 : Int32) * (8 : Int32)))]) (rest := []) ⟨hx, hb, hml, hown, hts⟩ (k_L_hail l hl9 hT z a3 u4 ((1 : Int32) + (w_1 - w_1 / (8 : Int32) * (8 : Int32))) h3 H.size _ _ _ hc_44) (vx_cwSW 3 hts (rc_gS tw_4_75 tw_4_76 tw_1_0 tw_4_77) rfl rfl rfl (by decide +kernel) ⟨Nat.le_of_ble_eq_true rfl, Nat.le_of_ble_eq_true rfl⟩) (rc_preSL hT hW hK hE hN hXz hS [.ref a3, .int u4, .int ((1 : Int32) + (w_1 - w_1 / (8 : Int32) * (8 : Int32)))]) rfl rfl hl.1 rfl (lv_room (Nat.le_of_ble_eq_true rfl)) dL_does_238 ⟨show 0 + 0 + 1 + 1 ≤ 18 from by omega, show 0 + 0 + 6 + 6 ≤ 122 from by omega⟩) (fun H locs hW hS => ?_)
    have hm := hm0
    clear hm0 hc_44
    exact rc_eiret hx hb hr hlocks hW hS (by omega) (by omega) hm dL_does_241
  replace hm := rc_f hm c_43
  by_cases c_45 : u2 = (17 : Int32)
  · replace hm := rc_t hm c_45
    refine lv_tableIn (off := 203) (tgt := 228) hx hb dL_does_25 (by rw [c_45]; decide) (by rw [c_45]; decide) (by rw [c_45]; decide) (by decide) ?_
    refine lv_aload_n hx hb dL_does_228 rfl (lv_at hl 5 rfl) ?_
    refine lv_iload hx hb dL_does_229 (lv_at hl 6 rfl) ?_
    refine lv_iconst (v := 1) hx hb dL_does_231 (by decide) ?_
    refine lv_iload hx hb dL_does_232 (lv_at hl 1 rfl) ?_
    refine lv_bipush (v := 8) hx hb dL_does_234 (by decide) ?_
    refine lv_irem hx hb dL_does_236 (by decide) ?_
    refine lv_iadd hx hb dL_does_237 ?_
    obtain ⟨w_46, σ_46, hc_46, hm0⟩ := rc_bd_inv hm
    clear hm
    refine rc_ci hS (vx_runSW (As := [.ref a3, .int u4, .int ((1 : Int32) + (w_1 - w_1 / (8 : Int32) * (8 : Int32)))]) (rest := []) ⟨hx, hb, hml, hown, hts⟩ (k_L_hail l hl9 hT z a3 u4 ((1 : Int32) + (w_1 - w_1 / (8 : Int32) * (8 : Int32))) h3 H.size _ _ _ hc_46) (vx_cwSW 3 hts (rc_gS tw_4_75 tw_4_76 tw_1_0 tw_4_77) rfl rfl rfl (by decide +kernel) ⟨Nat.le_of_ble_eq_true rfl, Nat.le_of_ble_eq_true rfl⟩) (rc_preSL hT hW hK hE hN hXz hS [.ref a3, .int u4, .int ((1 : Int32) + (w_1 - w_1 / (8 : Int32) * (8 : Int32)))]) rfl rfl hl.1 rfl (lv_room (Nat.le_of_ble_eq_true rfl)) dL_does_238 ⟨show 0 + 0 + 1 + 1 ≤ 18 from by omega, show 0 + 0 + 6 + 6 ≤ 122 from by omega⟩) (fun H locs hW hS => ?_)
    have hm := hm0
    clear hm0 hc_46
    exact rc_eiret hx hb hr hlocks hW hS (by omega) (by omega) hm dL_does_241
  replace hm := rc_f hm c_45
  by_cases c_47 : u2 = (18 : Int32)
  · replace hm := rc_t hm c_47
    refine lv_tableIn (off := 203) (tgt := 228) hx hb dL_does_25 (by rw [c_47]; decide) (by rw [c_47]; decide) (by rw [c_47]; decide) (by decide) ?_
    refine lv_aload_n hx hb dL_does_228 rfl (lv_at hl 5 rfl) ?_
    refine lv_iload hx hb dL_does_229 (lv_at hl 6 rfl) ?_
    refine lv_iconst (v := 1) hx hb dL_does_231 (by decide) ?_
    refine lv_iload hx hb dL_does_232 (lv_at hl 1 rfl) ?_
    refine lv_bipush (v := 8) hx hb dL_does_234 (by decide) ?_
    refine lv_irem hx hb dL_does_236 (by decide) ?_
    refine lv_iadd hx hb dL_does_237 ?_
    obtain ⟨w_48, σ_48, hc_48, hm0⟩ := rc_bd_inv hm
    clear hm
    refine rc_ci hS (vx_runSW (As := [.ref a3, .int u4, .int ((1 : Int32) + (w_1 - w_1 / (8 : Int32) * (8 : Int32)))]) (rest := []) ⟨hx, hb, hml, hown, hts⟩ (k_L_hail l hl9 hT z a3 u4 ((1 : Int32) + (w_1 - w_1 / (8 : Int32) * (8 : Int32))) h3 H.size _ _ _ hc_48) (vx_cwSW 3 hts (rc_gS tw_4_75 tw_4_76 tw_1_0 tw_4_77) rfl rfl rfl (by decide +kernel) ⟨Nat.le_of_ble_eq_true rfl, Nat.le_of_ble_eq_true rfl⟩) (rc_preSL hT hW hK hE hN hXz hS [.ref a3, .int u4, .int ((1 : Int32) + (w_1 - w_1 / (8 : Int32) * (8 : Int32)))]) rfl rfl hl.1 rfl (lv_room (Nat.le_of_ble_eq_true rfl)) dL_does_238 ⟨show 0 + 0 + 1 + 1 ≤ 18 from by omega, show 0 + 0 + 6 + 6 ≤ 122 from by omega⟩) (fun H locs hW hS => ?_)
    have hm := hm0
    clear hm0 hc_48
    exact rc_eiret hx hb hr hlocks hW hS (by omega) (by omega) hm dL_does_241
  replace hm := rc_f hm c_47
  by_cases c_49 : u2 = (19 : Int32)
  · replace hm := rc_t hm c_49
    refine lv_tableIn (off := 203) (tgt := 228) hx hb dL_does_25 (by rw [c_49]; decide) (by rw [c_49]; decide) (by rw [c_49]; decide) (by decide) ?_
    refine lv_aload_n hx hb dL_does_228 rfl (lv_at hl 5 rfl) ?_
    refine lv_iload hx hb dL_does_229 (lv_at hl 6 rfl) ?_
    refine lv_iconst (v := 1) hx hb dL_does_231 (by decide) ?_
    refine lv_iload hx hb dL_does_232 (lv_at hl 1 rfl) ?_
    refine lv_bipush (v := 8) hx hb dL_does_234 (by decide) ?_
    refine lv_irem hx hb dL_does_236 (by decide) ?_
    refine lv_iadd hx hb dL_does_237 ?_
    obtain ⟨w_50, σ_50, hc_50, hm0⟩ := rc_bd_inv hm
    clear hm
    refine rc_ci hS (vx_runSW (As := [.ref a3, .int u4, .int ((1 : Int32) + (w_1 - w_1 / (8 : Int32) * (8 : Int32)))]) (rest := []) ⟨hx, hb, hml, hown, hts⟩ (k_L_hail l hl9 hT z a3 u4 ((1 : Int32) + (w_1 - w_1 / (8 : Int32) * (8 : Int32))) h3 H.size _ _ _ hc_50) (vx_cwSW 3 hts (rc_gS tw_4_75 tw_4_76 tw_1_0 tw_4_77) rfl rfl rfl (by decide +kernel) ⟨Nat.le_of_ble_eq_true rfl, Nat.le_of_ble_eq_true rfl⟩) (rc_preSL hT hW hK hE hN hXz hS [.ref a3, .int u4, .int ((1 : Int32) + (w_1 - w_1 / (8 : Int32) * (8 : Int32)))]) rfl rfl hl.1 rfl (lv_room (Nat.le_of_ble_eq_true rfl)) dL_does_238 ⟨show 0 + 0 + 1 + 1 ≤ 18 from by omega, show 0 + 0 + 6 + 6 ≤ 122 from by omega⟩) (fun H locs hW hS => ?_)
    have hm := hm0
    clear hm0 hc_50
    exact rc_eiret hx hb hr hlocks hW hS (by omega) (by omega) hm dL_does_241
  replace hm := rc_f hm c_49
  by_cases c_51 : u2 = (20 : Int32)
  · replace hm := rc_t hm c_51
    refine lv_tableIn (off := 217) (tgt := 242) hx hb dL_does_25 (by rw [c_51]; decide) (by rw [c_51]; decide) (by rw [c_51]; decide) (by decide) ?_
    refine lv_aload_n hx hb dL_does_242 rfl (lv_at hl 5 rfl) ?_
    refine lv_iload hx hb dL_does_243 (lv_at hl 6 rfl) ?_
    obtain ⟨w_52, σ_52, hc_52, hm0⟩ := rc_bd_inv hm
    clear hm
    refine rc_ci hS (vx_runSW (As := [.ref a3, .int u4]) (rest := []) ⟨hx, hb, hml, hown, hts⟩ (k_L_drink l hl9 hT z a3 u4 h3 H.size _ _ _ hc_52) (vx_cwSW 2 hts (rc_gS tw_4_91 tw_4_92 tw_1_0 tw_4_93) rfl rfl rfl (by decide +kernel) ⟨Nat.le_of_ble_eq_true rfl, Nat.le_of_ble_eq_true rfl⟩) (rc_preSL hT hW hK hE hN hXz hS [.ref a3, .int u4]) rfl rfl hl.1 rfl (lv_room (Nat.le_of_ble_eq_true rfl)) dL_does_245 ⟨show 0 + 0 + 1 + 1 ≤ 18 from by omega, show 0 + 0 + 6 + 6 ≤ 122 from by omega⟩) (fun H locs hW hS => ?_)
    have hm := hm0
    clear hm0 hc_52
    exact rc_eiret hx hb hr hlocks hW hS (by omega) (by omega) hm dL_does_248
  replace hm := rc_f hm c_51
  by_cases c_53 : u2 = (21 : Int32)
  · replace hm := rc_t hm c_53
    refine lv_tableIn (off := 217) (tgt := 242) hx hb dL_does_25 (by rw [c_53]; decide) (by rw [c_53]; decide) (by rw [c_53]; decide) (by decide) ?_
    refine lv_aload_n hx hb dL_does_242 rfl (lv_at hl 5 rfl) ?_
    refine lv_iload hx hb dL_does_243 (lv_at hl 6 rfl) ?_
    obtain ⟨w_54, σ_54, hc_54, hm0⟩ := rc_bd_inv hm
    clear hm
    refine rc_ci hS (vx_runSW (As := [.ref a3, .int u4]) (rest := []) ⟨hx, hb, hml, hown, hts⟩ (k_L_drink l hl9 hT z a3 u4 h3 H.size _ _ _ hc_54) (vx_cwSW 2 hts (rc_gS tw_4_91 tw_4_92 tw_1_0 tw_4_93) rfl rfl rfl (by decide +kernel) ⟨Nat.le_of_ble_eq_true rfl, Nat.le_of_ble_eq_true rfl⟩) (rc_preSL hT hW hK hE hN hXz hS [.ref a3, .int u4]) rfl rfl hl.1 rfl (lv_room (Nat.le_of_ble_eq_true rfl)) dL_does_245 ⟨show 0 + 0 + 1 + 1 ≤ 18 from by omega, show 0 + 0 + 6 + 6 ≤ 122 from by omega⟩) (fun H locs hW hS => ?_)
    have hm := hm0
    clear hm0 hc_54
    exact rc_eiret hx hb hr hlocks hW hS (by omega) (by omega) hm dL_does_248
  replace hm := rc_f hm c_53
  by_cases c_55 : u2 = (22 : Int32)
  · replace hm := rc_t hm c_55
    refine lv_tableIn (off := 217) (tgt := 242) hx hb dL_does_25 (by rw [c_55]; decide) (by rw [c_55]; decide) (by rw [c_55]; decide) (by decide) ?_
    refine lv_aload_n hx hb dL_does_242 rfl (lv_at hl 5 rfl) ?_
    refine lv_iload hx hb dL_does_243 (lv_at hl 6 rfl) ?_
    obtain ⟨w_56, σ_56, hc_56, hm0⟩ := rc_bd_inv hm
    clear hm
    refine rc_ci hS (vx_runSW (As := [.ref a3, .int u4]) (rest := []) ⟨hx, hb, hml, hown, hts⟩ (k_L_drink l hl9 hT z a3 u4 h3 H.size _ _ _ hc_56) (vx_cwSW 2 hts (rc_gS tw_4_91 tw_4_92 tw_1_0 tw_4_93) rfl rfl rfl (by decide +kernel) ⟨Nat.le_of_ble_eq_true rfl, Nat.le_of_ble_eq_true rfl⟩) (rc_preSL hT hW hK hE hN hXz hS [.ref a3, .int u4]) rfl rfl hl.1 rfl (lv_room (Nat.le_of_ble_eq_true rfl)) dL_does_245 ⟨show 0 + 0 + 1 + 1 ≤ 18 from by omega, show 0 + 0 + 6 + 6 ≤ 122 from by omega⟩) (fun H locs hW hS => ?_)
    have hm := hm0
    clear hm0 hc_56
    exact rc_eiret hx hb hr hlocks hW hS (by omega) (by omega) hm dL_does_248
  replace hm := rc_f hm c_55
  by_cases c_57 : u2 = (23 : Int32)
  · replace hm := rc_t hm c_57
    refine lv_tableIn (off := 217) (tgt := 242) hx hb dL_does_25 (by rw [c_57]; decide) (by rw [c_57]; decide) (by rw [c_57]; decide) (by decide) ?_
    refine lv_aload_n hx hb dL_does_242 rfl (lv_at hl 5 rfl) ?_
    refine lv_iload hx hb dL_does_243 (lv_at hl 6 rfl) ?_
    obtain ⟨w_58, σ_58, hc_58, hm0⟩ := rc_bd_inv hm
    clear hm
    refine rc_ci hS (vx_runSW (As := [.ref a3, .int u4]) (rest := []) ⟨hx, hb, hml, hown, hts⟩ (k_L_drink l hl9 hT z a3 u4 h3 H.size _ _ _ hc_58) (vx_cwSW 2 hts (rc_gS tw_4_91 tw_4_92 tw_1_0 tw_4_93) rfl rfl rfl (by decide +kernel) ⟨Nat.le_of_ble_eq_true rfl, Nat.le_of_ble_eq_true rfl⟩) (rc_preSL hT hW hK hE hN hXz hS [.ref a3, .int u4]) rfl rfl hl.1 rfl (lv_room (Nat.le_of_ble_eq_true rfl)) dL_does_245 ⟨show 0 + 0 + 1 + 1 ≤ 18 from by omega, show 0 + 0 + 6 + 6 ≤ 122 from by omega⟩) (fun H locs hW hS => ?_)
    have hm := hm0
    clear hm0 hc_58
    exact rc_eiret hx hb hr hlocks hW hS (by omega) (by omega) hm dL_does_248
  replace hm := rc_f hm c_57
  by_cases c_59 : u2 = (24 : Int32)
  · replace hm := rc_t hm c_59
    refine lv_tableIn (off := 217) (tgt := 242) hx hb dL_does_25 (by rw [c_59]; decide) (by rw [c_59]; decide) (by rw [c_59]; decide) (by decide) ?_
    refine lv_aload_n hx hb dL_does_242 rfl (lv_at hl 5 rfl) ?_
    refine lv_iload hx hb dL_does_243 (lv_at hl 6 rfl) ?_
    obtain ⟨w_60, σ_60, hc_60, hm0⟩ := rc_bd_inv hm
    clear hm
    refine rc_ci hS (vx_runSW (As := [.ref a3, .int u4]) (rest := []) ⟨hx, hb, hml, hown, hts⟩ (k_L_drink l hl9 hT z a3 u4 h3 H.size _ _ _ hc_60) (vx_cwSW 2 hts (rc_gS tw_4_91 tw_4_92 tw_1_0 tw_4_93) rfl rfl rfl (by decide +kernel) ⟨Nat.le_of_ble_eq_true rfl, Nat.le_of_ble_eq_true rfl⟩) (rc_preSL hT hW hK hE hN hXz hS [.ref a3, .int u4]) rfl rfl hl.1 rfl (lv_room (Nat.le_of_ble_eq_true rfl)) dL_does_245 ⟨show 0 + 0 + 1 + 1 ≤ 18 from by omega, show 0 + 0 + 6 + 6 ≤ 122 from by omega⟩) (fun H locs hW hS => ?_)
    have hm := hm0
    clear hm0 hc_60
    exact rc_eiret hx hb hr hlocks hW hS (by omega) (by omega) hm dL_does_248
  replace hm := rc_f hm c_59
  by_cases c_61 : u2 = (25 : Int32)
  · replace hm := rc_t hm c_61
    refine lv_tableIn (off := 224) (tgt := 249) hx hb dL_does_25 (by rw [c_61]; decide) (by rw [c_61]; decide) (by rw [c_61]; decide) (by decide) ?_
    refine lv_aload_n hx hb dL_does_249 rfl (lv_at hl 5 rfl) ?_
    refine lv_iload hx hb dL_does_250 (lv_at hl 6 rfl) ?_
    refine lv_iload hx hb dL_does_252 (lv_at hl 0 rfl) ?_
    refine lv_iconst (v := 1) hx hb dL_does_254 (by decide) ?_
    refine lv_iload hx hb dL_does_255 (lv_at hl 1 rfl) ?_
    refine lv_bipush (v := 11) hx hb dL_does_257 (by decide) ?_
    refine lv_irem hx hb dL_does_259 (by decide) ?_
    refine lv_iadd hx hb dL_does_260 ?_
    obtain ⟨w_62, σ_62, hc_62, hm0⟩ := rc_bd_inv hm
    clear hm
    refine rc_ci hS (vx_runSW (As := [.ref a3, .int u4, .int v7_4, .int ((1 : Int32) + (w_1 - w_1 / (11 : Int32) * (11 : Int32)))]) (rest := []) ⟨hx, hb, hml, hown, hts⟩ (k_L_pour l hl9 hT z a3 u4 v7_4 ((1 : Int32) + (w_1 - w_1 / (11 : Int32) * (11 : Int32))) h3 H.size _ _ _ hc_62) (vx_cwSW 4 hts (rc_gS tw_4_115 tw_4_116 tw_1_0 tw_4_117) rfl rfl rfl (by decide +kernel) ⟨Nat.le_of_ble_eq_true rfl, Nat.le_of_ble_eq_true rfl⟩) (rc_preSL hT hW hK hE hN hXz hS [.ref a3, .int u4, .int v7_4, .int ((1 : Int32) + (w_1 - w_1 / (11 : Int32) * (11 : Int32)))]) rfl rfl hl.1 rfl (lv_room (Nat.le_of_ble_eq_true rfl)) dL_does_261 ⟨show 0 + 0 + 1 + 1 ≤ 18 from by omega, show 0 + 0 + 6 + 6 ≤ 122 from by omega⟩) (fun H locs hW hS => ?_)
    have hm := hm0
    clear hm0 hc_62
    exact rc_eiret hx hb hr hlocks hW hS (by omega) (by omega) hm dL_does_264
  replace hm := rc_f hm c_61
  by_cases c_63 : u2 = (26 : Int32)
  · replace hm := rc_t hm c_63
    refine lv_tableIn (off := 224) (tgt := 249) hx hb dL_does_25 (by rw [c_63]; decide) (by rw [c_63]; decide) (by rw [c_63]; decide) (by decide) ?_
    refine lv_aload_n hx hb dL_does_249 rfl (lv_at hl 5 rfl) ?_
    refine lv_iload hx hb dL_does_250 (lv_at hl 6 rfl) ?_
    refine lv_iload hx hb dL_does_252 (lv_at hl 0 rfl) ?_
    refine lv_iconst (v := 1) hx hb dL_does_254 (by decide) ?_
    refine lv_iload hx hb dL_does_255 (lv_at hl 1 rfl) ?_
    refine lv_bipush (v := 11) hx hb dL_does_257 (by decide) ?_
    refine lv_irem hx hb dL_does_259 (by decide) ?_
    refine lv_iadd hx hb dL_does_260 ?_
    obtain ⟨w_64, σ_64, hc_64, hm0⟩ := rc_bd_inv hm
    clear hm
    refine rc_ci hS (vx_runSW (As := [.ref a3, .int u4, .int v7_4, .int ((1 : Int32) + (w_1 - w_1 / (11 : Int32) * (11 : Int32)))]) (rest := []) ⟨hx, hb, hml, hown, hts⟩ (k_L_pour l hl9 hT z a3 u4 v7_4 ((1 : Int32) + (w_1 - w_1 / (11 : Int32) * (11 : Int32))) h3 H.size _ _ _ hc_64) (vx_cwSW 4 hts (rc_gS tw_4_115 tw_4_116 tw_1_0 tw_4_117) rfl rfl rfl (by decide +kernel) ⟨Nat.le_of_ble_eq_true rfl, Nat.le_of_ble_eq_true rfl⟩) (rc_preSL hT hW hK hE hN hXz hS [.ref a3, .int u4, .int v7_4, .int ((1 : Int32) + (w_1 - w_1 / (11 : Int32) * (11 : Int32)))]) rfl rfl hl.1 rfl (lv_room (Nat.le_of_ble_eq_true rfl)) dL_does_261 ⟨show 0 + 0 + 1 + 1 ≤ 18 from by omega, show 0 + 0 + 6 + 6 ≤ 122 from by omega⟩) (fun H locs hW hS => ?_)
    have hm := hm0
    clear hm0 hc_64
    exact rc_eiret hx hb hr hlocks hW hS (by omega) (by omega) hm dL_does_264
  replace hm := rc_f hm c_63
  by_cases c_65 : u2 = (27 : Int32)
  · replace hm := rc_t hm c_65
    refine lv_tableIn (off := 224) (tgt := 249) hx hb dL_does_25 (by rw [c_65]; decide) (by rw [c_65]; decide) (by rw [c_65]; decide) (by decide) ?_
    refine lv_aload_n hx hb dL_does_249 rfl (lv_at hl 5 rfl) ?_
    refine lv_iload hx hb dL_does_250 (lv_at hl 6 rfl) ?_
    refine lv_iload hx hb dL_does_252 (lv_at hl 0 rfl) ?_
    refine lv_iconst (v := 1) hx hb dL_does_254 (by decide) ?_
    refine lv_iload hx hb dL_does_255 (lv_at hl 1 rfl) ?_
    refine lv_bipush (v := 11) hx hb dL_does_257 (by decide) ?_
    refine lv_irem hx hb dL_does_259 (by decide) ?_
    refine lv_iadd hx hb dL_does_260 ?_
    obtain ⟨w_66, σ_66, hc_66, hm0⟩ := rc_bd_inv hm
    clear hm
    refine rc_ci hS (vx_runSW (As := [.ref a3, .int u4, .int v7_4, .int ((1 : Int32) + (w_1 - w_1 / (11 : Int32) * (11 : Int32)))]) (rest := []) ⟨hx, hb, hml, hown, hts⟩ (k_L_pour l hl9 hT z a3 u4 v7_4 ((1 : Int32) + (w_1 - w_1 / (11 : Int32) * (11 : Int32))) h3 H.size _ _ _ hc_66) (vx_cwSW 4 hts (rc_gS tw_4_115 tw_4_116 tw_1_0 tw_4_117) rfl rfl rfl (by decide +kernel) ⟨Nat.le_of_ble_eq_true rfl, Nat.le_of_ble_eq_true rfl⟩) (rc_preSL hT hW hK hE hN hXz hS [.ref a3, .int u4, .int v7_4, .int ((1 : Int32) + (w_1 - w_1 / (11 : Int32) * (11 : Int32)))]) rfl rfl hl.1 rfl (lv_room (Nat.le_of_ble_eq_true rfl)) dL_does_261 ⟨show 0 + 0 + 1 + 1 ≤ 18 from by omega, show 0 + 0 + 6 + 6 ≤ 122 from by omega⟩) (fun H locs hW hS => ?_)
    have hm := hm0
    clear hm0 hc_66
    exact rc_eiret hx hb hr hlocks hW hS (by omega) (by omega) hm dL_does_264
  replace hm := rc_f hm c_65
  by_cases c_67 : u2 = (28 : Int32)
  · replace hm := rc_t hm c_67
    refine lv_tableIn (off := 224) (tgt := 249) hx hb dL_does_25 (by rw [c_67]; decide) (by rw [c_67]; decide) (by rw [c_67]; decide) (by decide) ?_
    refine lv_aload_n hx hb dL_does_249 rfl (lv_at hl 5 rfl) ?_
    refine lv_iload hx hb dL_does_250 (lv_at hl 6 rfl) ?_
    refine lv_iload hx hb dL_does_252 (lv_at hl 0 rfl) ?_
    refine lv_iconst (v := 1) hx hb dL_does_254 (by decide) ?_
    refine lv_iload hx hb dL_does_255 (lv_at hl 1 rfl) ?_
    refine lv_bipush (v := 11) hx hb dL_does_257 (by decide) ?_
    refine lv_irem hx hb dL_does_259 (by decide) ?_
    refine lv_iadd hx hb dL_does_260 ?_
    obtain ⟨w_68, σ_68, hc_68, hm0⟩ := rc_bd_inv hm
    clear hm
    refine rc_ci hS (vx_runSW (As := [.ref a3, .int u4, .int v7_4, .int ((1 : Int32) + (w_1 - w_1 / (11 : Int32) * (11 : Int32)))]) (rest := []) ⟨hx, hb, hml, hown, hts⟩ (k_L_pour l hl9 hT z a3 u4 v7_4 ((1 : Int32) + (w_1 - w_1 / (11 : Int32) * (11 : Int32))) h3 H.size _ _ _ hc_68) (vx_cwSW 4 hts (rc_gS tw_4_115 tw_4_116 tw_1_0 tw_4_117) rfl rfl rfl (by decide +kernel) ⟨Nat.le_of_ble_eq_true rfl, Nat.le_of_ble_eq_true rfl⟩) (rc_preSL hT hW hK hE hN hXz hS [.ref a3, .int u4, .int v7_4, .int ((1 : Int32) + (w_1 - w_1 / (11 : Int32) * (11 : Int32)))]) rfl rfl hl.1 rfl (lv_room (Nat.le_of_ble_eq_true rfl)) dL_does_261 ⟨show 0 + 0 + 1 + 1 ≤ 18 from by omega, show 0 + 0 + 6 + 6 ≤ 122 from by omega⟩) (fun H locs hW hS => ?_)
    have hm := hm0
    clear hm0 hc_68
    exact rc_eiret hx hb hr hlocks hW hS (by omega) (by omega) hm dL_does_264
  replace hm := rc_f hm c_67
  refine rc_tblD (tgt := 265) hx hb dL_does_25 [0, 1, 2, 3, 4, 5, 6, 7, 8, 9, 10, 11, 12, 13, 14, 15, 16, 17, 18, 19, 20, 21, 22, 23, 24, 25, 26, 27, 28] (by decide +kernel) (by decide +kernel) (rc_nk c_5 (by decide) (rc_nk c_7 (by decide) (rc_nk c_9 (by decide) (rc_nk c_11 (by decide) (rc_nk c_13 (by decide) (rc_nk c_15 (by decide) (rc_nk c_17 (by decide) (rc_nk c_19 (by decide) (rc_nk c_21 (by decide) (rc_nk c_23 (by decide) (rc_nk c_28 (by decide) (rc_nk c_33 (by decide) (rc_nk c_35 (by decide) (rc_nk c_37 (by decide) (rc_nk c_39 (by decide) (rc_nk c_41 (by decide) (rc_nk c_43 (by decide) (rc_nk c_45 (by decide) (rc_nk c_47 (by decide) (rc_nk c_49 (by decide) (rc_nk c_51 (by decide) (rc_nk c_53 (by decide) (rc_nk c_55 (by decide) (rc_nk c_57 (by decide) (rc_nk c_59 (by decide) (rc_nk c_61 (by decide) (rc_nk c_63 (by decide) (rc_nk c_65 (by decide) (rc_nk c_67 (by decide) rc_nk0))))))))))))))))))))))))))))) (by decide) ?_
  have hMlt : ∀ q, sh q ≠ 0 → q < H.size := fun q h => hW.lt h
  have hY0 : Y.1 ≤ H.size := Nat.le_trans hE.1 hS.1
  have hn0 : s.heap.size ≤ H.size := hS.1
  obtain ⟨n0, hn0e⟩ : ∃ n0, n0 = H.size := ⟨_, rfl⟩
  rw [← hn0e] at hMlt hY0 hn0
  have hle : n0 ≤ H.size := Nat.le_of_eq hn0e
  obtain ⟨shS, rfS, σS, hTS, hWS, hlo⟩ : ∃ (shS : Nat → Nat) (rfS : rc_F) (σS : rc_S), rc_T Y shS rfS ∧ rc_W Y shS rfS σS H ∧ ∀ q, shS q ≠ 0 → n0 ≤ q := ⟨fun _ => 0, fun _ _ => 0, fun _ _ => 0, rc_T0, rc_W0, fun q h => absurd rfl h⟩
  by_cases c4_0 : (w_1 - w_1 / (4 : Int32) * (4 : Int32)) = 0
  · replace hm := rc_t hm c4_0
    obtain ⟨v5, hv5, e5, en5⟩ := rc_smI (rc_ck_inv hm).1
    replace hm := (rc_ck_inv hm).2
    rw [en5] at hm
    subst e5
    refine lv_aload_n hx hb dL_does_265 rfl (lv_at hl 5 rfl) ?_
    refine rc_newR (C := RJ4) (T := TJ4) (N := 4) (ci := 1) (fs := [.null, .int 0, .int 0, .int 0]) hx hb hts in_11 tyJ4 tyJ4_ok hown (hts _ tw_4_135) (hts _ tw_2_50) (hts _ tw_1_11) hK rfl (fun j hj => by
      rcases (show j = 0 ∨ j = 1 ∨ j = 2 ∨ j = 3 by omega) with rfl | rfl | rfl | rfl <;> rfl) (show 0 + 0 + 1 + 1 ≤ 18 from by omega) (show 0 + 0 + 6 + 4 ≤ 122 from by omega) dL_does_266 (fun H1 hX z1 oe => ?_)
    have hS1 : va_S (rc_A sh s.heap.size) s.heap H1 locs := ⟨by rw [z1]; exact Nat.le_succ_of_le hS.1, fun q g1 g2 => (oe q (Nat.lt_of_lt_of_le g1 hS.1)).trans (hS.2.1 q g1 g2), hS.2.2⟩
    refine lv_dup hx hb dL_does_269 rfl ?_
    refine rc_gv (B := fun H2 => rc_V Y (rl_o rc_o0 H.size g_J4_init_da8c8) H2 ∧ H2.size = H.size + 2) hS1 (fun q h => Or.inr (Nat.le_trans hS.1 h)) (va_runI (As := []) (rest := [.ref H.size, .ref a3]) ⟨hx, hb, hml, hown, hts⟩ (kd_J4_init_da8c8 l rc_o0 H.size (Nat.le_trans hY0 hle)) (cwI 0 hts (rc_gI tw_2_53) rfl rfl rfl (hts _ tw_1_11) (hts _ tw_4_136) (hts _ tw_2_52) rfl (by decide +kernel) ⟨Nat.le_of_ble_eq_true rfl, Nat.le_of_ble_eq_true rfl⟩) (rl_pren (x0 := Y.1) (Nat.le_refl _) hK hE (rc_sb0 hX) z1 (rc_SB hT hE hS1) [.ref H.size]) rfl rfl hl.1 rfl (lv_room (Nat.le_of_ble_eq_true rfl)) dL_does_270 ⟨show 0 + 0 + 1 + 1 + 1 ≤ 18 from by omega, show 0 + 0 + 6 + 4 + 16 ≤ 122 from by omega⟩) (fun Hq1 locs hV2 _ hq2 hS => ?_)
    obtain ⟨hV2, z2⟩ := hV2
    have e2 : ∀ q : Nat, q < H.size → Hq1[q]? = H[q]? := fun q h => (hq2 q (by rw [z1]; omega) (Nat.not_le.mpr h)).trans (oe q h)
    obtain ⟨shS_o, e1_o⟩ : ∃ f, f = shS := ⟨_, rfl⟩
    have hTS_o := hTS
    have hWS_o := hWS
    rw [← e1_o] at hTS_o hWS_o
    obtain ⟨shS, rfS, σS, hTS, hWS, ho1, hbo1, hp1, hx2, hlo2⟩ := rc_sbX hTS hWS (Nat.le_trans hY0 hle) e2 hV2
    rw [← e1_o] at hx2
    have hW := hW.kept (fun q h => e2 q (hW.lt h))
    have hlo : ∀ q, shS q ≠ 0 → n0 ≤ q := fun q h => (hlo2 q h).elim (hlo q) (fun h => Nat.le_trans hle h)
    have hle2 : n0 ≤ Hq1.size := by rw [z2]; omega
    obtain ⟨o1, eo1⟩ : ∃ o, o = H.size := ⟨_, rfl⟩
    rw [← eo1] at ho1 hbo1 hp1 ⊢
    have hle := hle2
    clear hX z1 oe hS1 hV2 z2 e2 hq2 hx2 hlo2 hle2
    refine va_ldcS hx hb hown (rc_E_R hE 6 (by decide)) dL_does_273 ?_
    show W p l e _ s m _ below meth c Hq1 locs _ _ _ (F0 m 275 ls (.ref (Y.2.2.2 6) :: [.ref o1, .ref a3]))
    obtain ⟨σS, hc, hp9, hf⟩ := pb_con (rf := rfS) hbo1 (by omega) hp1 (r := 6) (ds := [121, 59]) (by simp) (by decide) pb_c6
    have hAS : ∀ q, rc_A shS Hq1.size q → rc_A sh s.heap.size q := fun q h => Or.inr (h.elim (fun h => Nat.le_trans hn0 (hlo q h)) (fun h => Nat.le_trans hS.1 h))
    have hB := rc_SB hT hE hS
    have hd : ∀ q, sh q ≠ 0 → shS q = 0 := fun q h => Classical.byContradiction (fun h2 => absurd (hMlt q h) (Nat.not_lt.mpr (hlo q h2)))
    refine rc_gr hS hAS (va_runV (As := [.ref (Y.2.2.2 6)]) (rest := [.ref a3]) ⟨hx, hb, hml, hown, hts⟩ (k_J4_append_15ec4_c l hTS o1 6 ho1 (by decide) Hq1.size _ _ _ hc) (cwV 1 hts (rc_gV tw_4_138 tw_4_139 tw_4_140 tw_1_11 tw_4_141) rfl rfl rfl (by decide +kernel) ⟨Nat.le_of_ble_eq_true rfl, Nat.le_of_ble_eq_true rfl⟩) (rc_preVB hWS hK hE hB ho1 (by decide) rfl (q := (RJ4, TJ4, 4)) rfl [.ref (Y.2.2.2 6)]) rfl rfl hl.1 rfl (lv_room (Nat.le_of_ble_eq_true rfl)) dL_does_275 ⟨show 0 + 0 + 1 + 1 + 1 + 0 ≤ 18 from by omega, show 0 + 0 + 6 + 4 + 16 + 0 ≤ 122 from by omega⟩) (fun Hq2 locs hWS hz9 hq9 hS => ?_)
    have hW := hW.keptA (sh := shS) hd (Nat.le_refl _) hq9
    have hle := Nat.le_trans hle hz9
    have hp1 : pB σS o1 (o1 + 1) [121, 59] := hp9
    clear hc hp9 hf hAS hd hq9 hz9
    refine lv_iload hx hb dL_does_278 (lv_at hl 1 rfl) ?_
    refine lv_iconst (v := 4) hx hb dL_does_280 (by decide) ?_
    refine lv_irem hx hb dL_does_281 (by decide) ?_
    refine lv_if_ne (tgt := 313) hx hb dL_does_282 (by decide) (fun c9 => absurd c4_0 c9) (fun _ => ?_)
    refine rc_newR (C := RJ4) (T := TJ4) (N := 4) (ci := 1) (fs := [.null, .int 0, .int 0, .int 0]) hx hb hts in_11 tyJ4 tyJ4_ok hown (hts _ tw_4_135) (hts _ tw_2_50) (hts _ tw_1_11) hK rfl (fun j hj => by
      rcases (show j = 0 ∨ j = 1 ∨ j = 2 ∨ j = 3 by omega) with rfl | rfl | rfl | rfl <;> rfl) (show 0 + 0 + 1 + 1 + 1 + 0 + 1 ≤ 18 from by omega) (show 0 + 0 + 6 + 4 + 16 + 0 + 4 ≤ 122 from by omega) dL_does_285 (fun H1 hX z1 oe => ?_)
    have hS1 : va_S (rc_A sh s.heap.size) s.heap H1 locs := ⟨by rw [z1]; exact Nat.le_succ_of_le hS.1, fun q g1 g2 => (oe q (Nat.lt_of_lt_of_le g1 hS.1)).trans (hS.2.1 q g1 g2), hS.2.2⟩
    refine lv_dup hx hb dL_does_288 rfl ?_
    refine rc_gv (B := fun H2 => rc_V Y (rl_o rc_o0 Hq2.size g_J4_init_da8c8) H2 ∧ H2.size = Hq2.size + 2) hS1 (fun q h => Or.inr (Nat.le_trans hS.1 h)) (va_runI (As := []) (rest := [.ref Hq2.size, .ref o1, .ref a3]) ⟨hx, hb, hml, hown, hts⟩ (kd_J4_init_da8c8 l rc_o0 Hq2.size (Nat.le_trans hY0 hle)) (cwI 0 hts (rc_gI tw_2_53) rfl rfl rfl (hts _ tw_1_11) (hts _ tw_4_136) (hts _ tw_2_52) rfl (by decide +kernel) ⟨Nat.le_of_ble_eq_true rfl, Nat.le_of_ble_eq_true rfl⟩) (rl_pren (x0 := Y.1) (Nat.le_refl _) hK hE (rc_sb0 hX) z1 (rc_SB hT hE hS1) [.ref Hq2.size]) rfl rfl hl.1 rfl (lv_room (Nat.le_of_ble_eq_true rfl)) dL_does_289 ⟨show 0 + 0 + 1 + 1 + 1 + 0 + 1 + 1 ≤ 18 from by omega, show 0 + 0 + 6 + 4 + 16 + 0 + 4 + 16 ≤ 122 from by omega⟩) (fun Hq3 locs hV2 _ hq2 hS => ?_)
    obtain ⟨hV2, z2⟩ := hV2
    have e2 : ∀ q : Nat, q < Hq2.size → Hq3[q]? = Hq2[q]? := fun q h => (hq2 q (by rw [z1]; omega) (Nat.not_le.mpr h)).trans (oe q h)
    obtain ⟨shS_o, e1_o⟩ : ∃ f, f = shS := ⟨_, rfl⟩
    have hTS_o := hTS
    have hWS_o := hWS
    rw [← e1_o] at hTS_o hWS_o ho1
    obtain ⟨shS, rfS, σS, hTS, hWS, ho2, hbo2, hp2, hx2, hlo2⟩ := rc_sbX hTS hWS (Nat.le_trans hY0 hle) e2 hV2
    rw [← e1_o] at hx2
    have hW := hW.kept (fun q h => e2 q (hW.lt h))
    have hx24_1 : shS_o (o1 + 1) ≠ 0 := by
      have h9 := rc_t_11_0 hTS_o ho1
      rw [hbo1] at h9; rw [h9]; decide
    have hx11_1 : shS_o o1 ≠ 0 := by rw [ho1]; decide
    have hz1 : o1 + 1 < Hq2.size := hWS_o.lt hx24_1
    have hp1 := pB_f (σ' := σS) hp1 (hx2 _ hx11_1).2.2 (hx2 _ hx24_1).2.2
    have hbo1 : rfS o1 0 = o1 + 1 := by rw [(hx2 _ hx11_1).2.1]; exact hbo1
    have ho1 := ((hx2 _ hx11_1).1).trans ho1
    have hlo : ∀ q, shS q ≠ 0 → n0 ≤ q := fun q h => (hlo2 q h).elim (hlo q) (fun h => Nat.le_trans hle h)
    have hle2 : n0 ≤ Hq3.size := by rw [z2]; omega
    obtain ⟨o2, eo2⟩ : ∃ o, o = Hq2.size := ⟨_, rfl⟩
    rw [← eo2] at ho2 hbo2 hp2 hz1 ⊢
    have hle := hle2
    clear hX z1 oe hS1 hV2 z2 e2 hq2 hx2 hlo2 hle2
    refine va_ldcS hx hb hown (rc_E_R hE 7 (by decide)) dL_does_292 ?_
    show W p l e _ s m _ below meth c Hq3 locs _ _ _ (F0 m 294 ls (.ref (Y.2.2.2 7) :: [.ref o2, .ref o1, .ref a3]))
    obtain ⟨σS, hc, hp9, hf⟩ := pb_con (rf := rfS) hbo2 (by omega) hp2 (r := 7) (ds := [115]) (by simp) (by decide) pb_c7
    have hAS : ∀ q, rc_A shS Hq3.size q → rc_A sh s.heap.size q := fun q h => Or.inr (h.elim (fun h => Nat.le_trans hn0 (hlo q h)) (fun h => Nat.le_trans hS.1 h))
    have hB := rc_SB hT hE hS
    have hd : ∀ q, sh q ≠ 0 → shS q = 0 := fun q h => Classical.byContradiction (fun h2 => absurd (hMlt q h) (Nat.not_lt.mpr (hlo q h2)))
    refine rc_gr hS hAS (va_runV (As := [.ref (Y.2.2.2 7)]) (rest := [.ref o1, .ref a3]) ⟨hx, hb, hml, hown, hts⟩ (k_J4_append_15ec4_c l hTS o2 7 ho2 (by decide) Hq3.size _ _ _ hc) (cwV 1 hts (rc_gV tw_4_138 tw_4_139 tw_4_140 tw_1_11 tw_4_141) rfl rfl rfl (by decide +kernel) ⟨Nat.le_of_ble_eq_true rfl, Nat.le_of_ble_eq_true rfl⟩) (rc_preVB hWS hK hE hB ho2 (by decide) rfl (q := (RJ4, TJ4, 4)) rfl [.ref (Y.2.2.2 7)]) rfl rfl hl.1 rfl (lv_room (Nat.le_of_ble_eq_true rfl)) dL_does_294 ⟨show 0 + 0 + 1 + 1 + 1 + 0 + 1 + 1 + 0 ≤ 18 from by omega, show 0 + 0 + 6 + 4 + 16 + 0 + 4 + 16 + 0 ≤ 122 from by omega⟩) (fun Hq4 locs hWS hz9 hq9 hS => ?_)
    have hW := hW.keptA (sh := shS) hd (Nat.le_refl _) hq9
    have hle := Nat.le_trans hle hz9
    have hp1 := pB_f (σ' := σS) hp1 (hf _ (by omega) (by omega)) (hf _ (by omega) (by omega))
    have hp2 : pB σS o2 (o2 + 1) [115] := hp9
    clear hc hp9 hf hAS hd hq9 hz9
    refine lv_iload hx hb dL_does_297 (lv_at hl 7 rfl) ?_
    have ed : pq_dg v5 = [48 + v5] := if_pos hv5
    obtain ⟨σS, hc, hp9, hf⟩ := pb_num (rf := rfS) hbo2 (by omega) hp2 (v := v5) (by omega) (by rw [ed]; simp)
    rw [ed] at hp9
    have hAS : ∀ q, rc_A shS Hq4.size q → rc_A sh s.heap.size q := fun q h => Or.inr (h.elim (fun h => Nat.le_trans hn0 (hlo q h)) (fun h => Nat.le_trans hS.1 h))
    have hB := rc_SB hT hE hS
    have hd : ∀ q, sh q ≠ 0 → shS q = 0 := fun q h => Classical.byContradiction (fun h2 => absurd (hMlt q h) (Nat.not_lt.mpr (hlo q h2)))
    refine rc_gr hS hAS (va_runV (As := [.int (Int32.ofNat v5)]) (rest := [.ref o1, .ref a3]) ⟨hx, hb, hml, hown, hts⟩ (k_J4_append_bf812 l hTS o2 (Int32.ofNat v5) ho2 Hq4.size _ _ _ hc) (cwV 1 hts (rc_gV tw_5_15 tw_5_16 tw_5_17 tw_1_11 tw_5_18) rfl rfl rfl (by decide +kernel) ⟨Nat.le_of_ble_eq_true rfl, Nat.le_of_ble_eq_true rfl⟩) (rc_preVB hWS hK hE hB ho2 (by decide) rfl (q := (RJ4, TJ4, 4)) rfl [.int (Int32.ofNat v5)]) rfl rfl hl.1 rfl (lv_room (Nat.le_of_ble_eq_true rfl)) dL_does_299 ⟨show 0 + 0 + 1 + 1 + 1 + 0 + 1 + 1 + 0 + 0 ≤ 18 from by omega, show 0 + 0 + 6 + 4 + 16 + 0 + 4 + 16 + 0 + 0 ≤ 122 from by omega⟩) (fun Hq5 locs hWS hz9 hq9 hS => ?_)
    have hW := hW.keptA (sh := shS) hd (Nat.le_refl _) hq9
    have hle := Nat.le_trans hle hz9
    have hp1 := pB_f (σ' := σS) hp1 (hf _ (by omega) (by omega)) (hf _ (by omega) (by omega))
    have hp2 : pB σS o2 (o2 + 1) [115, 48 + v5] := hp9
    clear hc hp9 hf hAS hd hq9 hz9
    refine va_ldcS hx hb hown (rc_E_R hE 8 (by decide)) dL_does_302 ?_
    show W p l e _ s m _ below meth c Hq5 locs _ _ _ (F0 m 304 ls (.ref (Y.2.2.2 8) :: [.ref o2, .ref o1, .ref a3]))
    obtain ⟨σS, hc, hp9, hf⟩ := pb_con (rf := rfS) hbo2 (by omega) hp2 (r := 8) (ds := [42, 50]) (by simp) (by decide) pb_c8
    have hAS : ∀ q, rc_A shS Hq5.size q → rc_A sh s.heap.size q := fun q h => Or.inr (h.elim (fun h => Nat.le_trans hn0 (hlo q h)) (fun h => Nat.le_trans hS.1 h))
    have hB := rc_SB hT hE hS
    have hd : ∀ q, sh q ≠ 0 → shS q = 0 := fun q h => Classical.byContradiction (fun h2 => absurd (hMlt q h) (Nat.not_lt.mpr (hlo q h2)))
    refine rc_gr hS hAS (va_runV (As := [.ref (Y.2.2.2 8)]) (rest := [.ref o1, .ref a3]) ⟨hx, hb, hml, hown, hts⟩ (k_J4_append_15ec4_c l hTS o2 8 ho2 (by decide) Hq5.size _ _ _ hc) (cwV 1 hts (rc_gV tw_4_138 tw_4_139 tw_4_140 tw_1_11 tw_4_141) rfl rfl rfl (by decide +kernel) ⟨Nat.le_of_ble_eq_true rfl, Nat.le_of_ble_eq_true rfl⟩) (rc_preVB hWS hK hE hB ho2 (by decide) rfl (q := (RJ4, TJ4, 4)) rfl [.ref (Y.2.2.2 8)]) rfl rfl hl.1 rfl (lv_room (Nat.le_of_ble_eq_true rfl)) dL_does_304 ⟨show 0 + 0 + 1 + 1 + 1 + 0 + 1 + 1 + 0 + 0 + 0 ≤ 18 from by omega, show 0 + 0 + 6 + 4 + 16 + 0 + 4 + 16 + 0 + 0 + 0 ≤ 122 from by omega⟩) (fun Hq6 locs hWS hz9 hq9 hS => ?_)
    have hW := hW.keptA (sh := shS) hd (Nat.le_refl _) hq9
    have hle := Nat.le_trans hle hz9
    have hp1 := pB_f (σ' := σS) hp1 (hf _ (by omega) (by omega)) (hf _ (by omega) (by omega))
    have hp2 : pB σS o2 (o2 + 1) [115, 48 + v5, 42, 50] := hp9
    clear hc hp9 hf hAS hd hq9 hz9
    have hAS : ∀ q, rc_A shS Hq6.size q → rc_A sh s.heap.size q := fun q h => Or.inr (h.elim (fun h => Nat.le_trans hn0 (hlo q h)) (fun h => Nat.le_trans hS.1 h))
    have hB := rc_SB hT hE hS
    have hd : ∀ q, sh q ≠ 0 → shS q = 0 := fun q h => Classical.byContradiction (fun h2 => absurd (hMlt q h) (Nat.not_lt.mpr (hlo q h2)))
    refine rc_rcall (B := rc_pT Y shS rfS σS 13 (rc_gc (σS (rfS o2 0)) 4) Hq6.size) hS (fun q _ h => hAS q h) (fun q h => Or.inr (Nat.le_trans hS.1 h)) hAS (va_runV (As := []) (rest := [.ref o1, .ref a3]) ⟨hx, hb, hml, hown, hts⟩ (kn_J4_toString_0e30d_13 l hTS o2 ho2 Hq6.size σS hp2.1 (show σS o2 3 = (4 : Int32) from hp2.2.1) (by rw [hbo2]; exact pb_gc hp2 rfl)) (cwV 0 hts (rc_gV tw_5_41 tw_5_42 tw_5_43 tw_1_11 tw_5_44) rfl rfl rfl (by decide +kernel) ⟨Nat.le_of_ble_eq_true rfl, Nat.le_of_ble_eq_true rfl⟩) (rc_preVB hWS hK hE hB ho2 (by decide) rfl (q := (RJ4, TJ4, 4)) rfl []) rfl rfl hl.1 rfl (lv_room (Nat.le_of_ble_eq_true rfl)) dL_does_307 ⟨show 0 + 0 + 1 + 1 + 1 + 0 + 1 + 1 + 0 + 0 + 0 + 2 ≤ 18 from by omega, show 0 + 0 + 6 + 4 + 16 + 0 + 4 + 16 + 0 + 0 + 0 + 8 ≤ 122 from by omega⟩) (fun x2 Hq7 locs hBx hz9 hq9 hS => ?_)
    have hW := hW.keptA (sh := shS) hd (Nat.le_refl _) hq9
    rw [hbo2] at hBx
    obtain ⟨shS_o, e1_o⟩ : ∃ f, f = shS := ⟨_, rfl⟩
    have hTS_o := hTS
    have hWS_o := hWS
    rw [← e1_o] at hTS_o hWS_o ho1
    obtain ⟨shS, rfS, σS, hTS, hWS, hx2s, hxl2, hxa2, htx, hx2, hlo2⟩ := rc_stX (n := 4) hTS hWS (Nat.le_trans hY0 hle) (by decide) hBx hp2 rfl
    rw [← e1_o] at hx2
    have hx24_1 : shS_o (o1 + 1) ≠ 0 := by
      have h9 := rc_t_11_0 hTS_o ho1
      rw [hbo1] at h9; rw [h9]; decide
    have hx11_1 : shS_o o1 ≠ 0 := by rw [ho1]; decide
    have hz1 : o1 + 1 < Hq6.size := hWS_o.lt hx24_1
    have hp1 := pB_f (σ' := σS) hp1 (hx2 _ hx11_1).2.2 (hx2 _ hx24_1).2.2
    have hbo1 : rfS o1 0 = o1 + 1 := by rw [(hx2 _ hx11_1).2.1]; exact hbo1
    have ho1 := ((hx2 _ hx11_1).1).trans ho1
    have hlo : ∀ q, shS q ≠ 0 → n0 ≤ q := fun q h => (hlo2 q h).elim (hlo q) (fun h => Nat.le_trans hle h)
    have hle := Nat.le_trans hle hz9
    clear hBx hz9 hq9 hAS hd hx2 hlo2
    refine lv_goto (tgt := 402) hx hb dL_does_310 (by decide) ?_
    obtain ⟨σS, hc, hp9, hf⟩ := pb_str_13 (rf := rfS) hbo1 (by omega) hp1 (s := x2) (bs := rfS x2 0) rfl (by omega) (by omega) (by omega) htx rfl (by simp)
    have hAS : ∀ q, rc_A shS Hq7.size q → rc_A sh s.heap.size q := fun q h => Or.inr (h.elim (fun h => Nat.le_trans hn0 (hlo q h)) (fun h => Nat.le_trans hS.1 h))
    have hB := rc_SB hT hE hS
    have hd : ∀ q, sh q ≠ 0 → shS q = 0 := fun q h => Classical.byContradiction (fun h2 => absurd (hMlt q h) (Nat.not_lt.mpr (hlo q h2)))
    refine rc_gr hS hAS (va_runV (As := [.ref x2]) (rest := [.ref a3]) ⟨hx, hb, hml, hown, hts⟩ (k_J4_append_15ec4_13 l hTS o1 x2 ho1 hx2s Hq7.size _ _ _ hc) (cwV 1 hts (rc_gV tw_4_138 tw_4_139 tw_4_140 tw_1_11 tw_4_141) rfl rfl rfl (by decide +kernel) ⟨Nat.le_of_ble_eq_true rfl, Nat.le_of_ble_eq_true rfl⟩) (rc_preVB hWS hK hE hB ho1 (by decide) rfl (q := (RJ4, TJ4, 4)) rfl [.ref x2]) rfl rfl hl.1 rfl (lv_room (Nat.le_of_ble_eq_true rfl)) dL_does_402 ⟨show 0 + 0 + 1 + 1 + 1 + 0 + 1 + 1 + 0 + 0 + 0 + 2 + 0 ≤ 18 from by omega, show 0 + 0 + 6 + 4 + 16 + 0 + 4 + 16 + 0 + 0 + 0 + 8 + 0 ≤ 122 from by omega⟩) (fun Hq8 locs hWS hz9 hq9 hS => ?_)
    have hW := hW.keptA (sh := shS) hd (Nat.le_refl _) hq9
    have hle := Nat.le_trans hle hz9
    have hp1 : pB σS o1 (o1 + 1) [121, 59, 115, 48 + v5, 42, 50] := hp9
    clear hc hp9 hf hAS hd hq9 hz9
    have hAS : ∀ q, rc_A shS Hq8.size q → rc_A sh s.heap.size q := fun q h => Or.inr (h.elim (fun h => Nat.le_trans hn0 (hlo q h)) (fun h => Nat.le_trans hS.1 h))
    have hB := rc_SB hT hE hS
    have hd : ∀ q, sh q ≠ 0 → shS q = 0 := fun q h => Classical.byContradiction (fun h2 => absurd (hMlt q h) (Nat.not_lt.mpr (hlo q h2)))
    refine rc_rcall (B := rc_pT Y shS rfS σS 14 (rc_gc (σS (rfS o1 0)) 6) Hq8.size) hS (fun q _ h => hAS q h) (fun q h => Or.inr (Nat.le_trans hS.1 h)) hAS (va_runV (As := []) (rest := [.ref a3]) ⟨hx, hb, hml, hown, hts⟩ (kn_J4_toString_0e30d_14 l hTS o1 ho1 Hq8.size σS hp1.1 (show σS o1 3 = (6 : Int32) from hp1.2.1) (by rw [hbo1]; exact pb_gc hp1 rfl)) (cwV 0 hts (rc_gV tw_5_41 tw_5_42 tw_5_43 tw_1_11 tw_5_44) rfl rfl rfl (by decide +kernel) ⟨Nat.le_of_ble_eq_true rfl, Nat.le_of_ble_eq_true rfl⟩) (rc_preVB hWS hK hE hB ho1 (by decide) rfl (q := (RJ4, TJ4, 4)) rfl []) rfl rfl hl.1 rfl (lv_room (Nat.le_of_ble_eq_true rfl)) dL_does_405 ⟨show 0 + 0 + 1 + 1 + 1 + 0 + 1 + 1 + 0 + 0 + 0 + 2 + 0 + 2 ≤ 18 from by omega, show 0 + 0 + 6 + 4 + 16 + 0 + 4 + 16 + 0 + 0 + 0 + 8 + 0 + 10 ≤ 122 from by omega⟩) (fun x1 Hq9 locs hBx hz9 hq9 hS => ?_)
    have hW := hW.keptA (sh := shS) hd (Nat.le_refl _) hq9
    rw [hbo1] at hBx
    obtain ⟨shS_o, e1_o⟩ : ∃ f, f = shS := ⟨_, rfl⟩
    have hTS_o := hTS
    have hWS_o := hWS
    rw [← e1_o] at hTS_o hWS_o
    obtain ⟨shS, rfS, σS, hTS, hWS, hx1s, hxl1, hxa1, htx, hx2, hlo2⟩ := rc_stX (n := 6) hTS hWS (Nat.le_trans hY0 hle) (by decide) hBx hp1 rfl
    rw [← e1_o] at hx2
    have hlo : ∀ q, shS q ≠ 0 → n0 ≤ q := fun q h => (hlo2 q h).elim (hlo q) (fun h => Nat.le_trans hle h)
    have hle := Nat.le_trans hle hz9
    clear hBx hz9 hq9 hAS hd hx2 hlo2
    have hAS : ∀ q, rc_A shS Hq9.size q → rc_A sh s.heap.size q := fun q h => Or.inr (h.elim (fun h => Nat.le_trans hn0 (hlo q h)) (fun h => Nat.le_trans hS.1 h))
    have hB := rc_SB hT hE hS
    have hd : ∀ q, sh q ≠ 0 → shS q = 0 := fun q h => Classical.byContradiction (fun h2 => absurd (hMlt q h) (Nat.not_lt.mpr (hlo q h2)))
    have htx : pTx σS x1 (rfS x1 0) (tx0 v5) := htx
    refine rc_giA hS (fun q h => h.elim (fun h => Or.inr (Nat.le_trans hn0 (hlo q h))) (fun h => h.elim Or.inl (fun h => Or.inr (Nat.le_trans hS.1 h)))) (va_runS (As := [.ref a3, .ref x1]) (rest := []) ⟨hx, hb, hml, hown, hts⟩ (k_L_reads_14 l hl9 hT z a3 h3 hTS x1 hx1s hd (L := tx0 v5) rfl htx Hq9.size _ _ _ hm) (va_cwS 2 hts (rc_gS tw_5_112 tw_5_113 tw_1_0 tw_5_114) rfl rfl rfl (by decide +kernel) ⟨Nat.le_of_ble_eq_true rfl, Nat.le_of_ble_eq_true rfl⟩) (rc_preSR hW hWS hK hE hN hXz hB [.ref a3, .ref x1]) rfl rfl hl.1 rfl (lv_room (Nat.le_of_ble_eq_true rfl)) dL_does_408 ⟨show 0 + 0 + 1 + 1 + 1 + 0 + 1 + 1 + 0 + 0 + 0 + 2 + 0 + 2 + 7 ≤ 18 from by omega, show 0 + 0 + 6 + 4 + 16 + 0 + 4 + 16 + 0 + 0 + 0 + 8 + 0 + 10 + 42 ≤ 122 from by omega⟩) (fun Hq10 locs hW hS => ?_)
    exact rc_eiret hx hb hr hlocks hW hS (by omega) (by omega) rfl dL_does_411
  · replace hm := rc_f hm c4_0
    by_cases c4_1 : (w_1 - w_1 / (4 : Int32) * (4 : Int32)) = (1 : Int32)
    · replace hm := rc_t hm c4_1
      obtain ⟨v4, hv4, e4, en4⟩ := rc_smI (rc_ck_inv hm).1
      replace hm := (rc_ck_inv hm).2
      rw [en4] at hm
      subst e4
      refine lv_aload_n hx hb dL_does_265 rfl (lv_at hl 5 rfl) ?_
      refine rc_newR (C := RJ4) (T := TJ4) (N := 4) (ci := 1) (fs := [.null, .int 0, .int 0, .int 0]) hx hb hts in_11 tyJ4 tyJ4_ok hown (hts _ tw_4_135) (hts _ tw_2_50) (hts _ tw_1_11) hK rfl (fun j hj => by
        rcases (show j = 0 ∨ j = 1 ∨ j = 2 ∨ j = 3 by omega) with rfl | rfl | rfl | rfl <;> rfl) (show 0 + 0 + 1 + 1 ≤ 18 from by omega) (show 0 + 0 + 6 + 4 ≤ 122 from by omega) dL_does_266 (fun H1 hX z1 oe => ?_)
      have hS1 : va_S (rc_A sh s.heap.size) s.heap H1 locs := ⟨by rw [z1]; exact Nat.le_succ_of_le hS.1, fun q g1 g2 => (oe q (Nat.lt_of_lt_of_le g1 hS.1)).trans (hS.2.1 q g1 g2), hS.2.2⟩
      refine lv_dup hx hb dL_does_269 rfl ?_
      refine rc_gv (B := fun H2 => rc_V Y (rl_o rc_o0 H.size g_J4_init_da8c8) H2 ∧ H2.size = H.size + 2) hS1 (fun q h => Or.inr (Nat.le_trans hS.1 h)) (va_runI (As := []) (rest := [.ref H.size, .ref a3]) ⟨hx, hb, hml, hown, hts⟩ (kd_J4_init_da8c8 l rc_o0 H.size (Nat.le_trans hY0 hle)) (cwI 0 hts (rc_gI tw_2_53) rfl rfl rfl (hts _ tw_1_11) (hts _ tw_4_136) (hts _ tw_2_52) rfl (by decide +kernel) ⟨Nat.le_of_ble_eq_true rfl, Nat.le_of_ble_eq_true rfl⟩) (rl_pren (x0 := Y.1) (Nat.le_refl _) hK hE (rc_sb0 hX) z1 (rc_SB hT hE hS1) [.ref H.size]) rfl rfl hl.1 rfl (lv_room (Nat.le_of_ble_eq_true rfl)) dL_does_270 ⟨show 0 + 0 + 1 + 1 + 1 ≤ 18 from by omega, show 0 + 0 + 6 + 4 + 16 ≤ 122 from by omega⟩) (fun Hq1 locs hV2 _ hq2 hS => ?_)
      obtain ⟨hV2, z2⟩ := hV2
      have e2 : ∀ q : Nat, q < H.size → Hq1[q]? = H[q]? := fun q h => (hq2 q (by rw [z1]; omega) (Nat.not_le.mpr h)).trans (oe q h)
      obtain ⟨shS_o, e1_o⟩ : ∃ f, f = shS := ⟨_, rfl⟩
      have hTS_o := hTS
      have hWS_o := hWS
      rw [← e1_o] at hTS_o hWS_o
      obtain ⟨shS, rfS, σS, hTS, hWS, ho1, hbo1, hp1, hx2, hlo2⟩ := rc_sbX hTS hWS (Nat.le_trans hY0 hle) e2 hV2
      rw [← e1_o] at hx2
      have hW := hW.kept (fun q h => e2 q (hW.lt h))
      have hlo : ∀ q, shS q ≠ 0 → n0 ≤ q := fun q h => (hlo2 q h).elim (hlo q) (fun h => Nat.le_trans hle h)
      have hle2 : n0 ≤ Hq1.size := by rw [z2]; omega
      obtain ⟨o1, eo1⟩ : ∃ o, o = H.size := ⟨_, rfl⟩
      rw [← eo1] at ho1 hbo1 hp1 ⊢
      have hle := hle2
      clear hX z1 oe hS1 hV2 z2 e2 hq2 hx2 hlo2 hle2
      refine va_ldcS hx hb hown (rc_E_R hE 6 (by decide)) dL_does_273 ?_
      show W p l e _ s m _ below meth c Hq1 locs _ _ _ (F0 m 275 ls (.ref (Y.2.2.2 6) :: [.ref o1, .ref a3]))
      obtain ⟨σS, hc, hp9, hf⟩ := pb_con (rf := rfS) hbo1 (by omega) hp1 (r := 6) (ds := [121, 59]) (by simp) (by decide) pb_c6
      have hAS : ∀ q, rc_A shS Hq1.size q → rc_A sh s.heap.size q := fun q h => Or.inr (h.elim (fun h => Nat.le_trans hn0 (hlo q h)) (fun h => Nat.le_trans hS.1 h))
      have hB := rc_SB hT hE hS
      have hd : ∀ q, sh q ≠ 0 → shS q = 0 := fun q h => Classical.byContradiction (fun h2 => absurd (hMlt q h) (Nat.not_lt.mpr (hlo q h2)))
      refine rc_gr hS hAS (va_runV (As := [.ref (Y.2.2.2 6)]) (rest := [.ref a3]) ⟨hx, hb, hml, hown, hts⟩ (k_J4_append_15ec4_c l hTS o1 6 ho1 (by decide) Hq1.size _ _ _ hc) (cwV 1 hts (rc_gV tw_4_138 tw_4_139 tw_4_140 tw_1_11 tw_4_141) rfl rfl rfl (by decide +kernel) ⟨Nat.le_of_ble_eq_true rfl, Nat.le_of_ble_eq_true rfl⟩) (rc_preVB hWS hK hE hB ho1 (by decide) rfl (q := (RJ4, TJ4, 4)) rfl [.ref (Y.2.2.2 6)]) rfl rfl hl.1 rfl (lv_room (Nat.le_of_ble_eq_true rfl)) dL_does_275 ⟨show 0 + 0 + 1 + 1 + 1 + 0 ≤ 18 from by omega, show 0 + 0 + 6 + 4 + 16 + 0 ≤ 122 from by omega⟩) (fun Hq2 locs hWS hz9 hq9 hS => ?_)
      have hW := hW.keptA (sh := shS) hd (Nat.le_refl _) hq9
      have hle := Nat.le_trans hle hz9
      have hp1 : pB σS o1 (o1 + 1) [121, 59] := hp9
      clear hc hp9 hf hAS hd hq9 hz9
      refine lv_iload hx hb dL_does_278 (lv_at hl 1 rfl) ?_
      refine lv_iconst (v := 4) hx hb dL_does_280 (by decide) ?_
      refine lv_irem hx hb dL_does_281 (by decide) ?_
      refine lv_if_ne (tgt := 313) hx hb dL_does_282 (by decide) (fun _ => ?_) (fun c9 => absurd c9 c4_0)
      refine lv_iload hx hb dL_does_313 (lv_at hl 1 rfl) ?_
      refine lv_iconst (v := 4) hx hb dL_does_315 (by decide) ?_
      refine lv_irem hx hb dL_does_316 (by decide) ?_
      refine lv_iconst (v := 1) hx hb dL_does_317 (by decide) ?_
      refine lv_icmp_ne (tgt := 344) hx hb dL_does_318 (by decide) (fun c9 => absurd c4_1 c9) (fun _ => ?_)
      refine rc_newR (C := RJ4) (T := TJ4) (N := 4) (ci := 1) (fs := [.null, .int 0, .int 0, .int 0]) hx hb hts in_11 tyJ4 tyJ4_ok hown (hts _ tw_4_135) (hts _ tw_2_50) (hts _ tw_1_11) hK rfl (fun j hj => by
        rcases (show j = 0 ∨ j = 1 ∨ j = 2 ∨ j = 3 by omega) with rfl | rfl | rfl | rfl <;> rfl) (show 0 + 0 + 1 + 1 + 1 + 0 + 1 ≤ 18 from by omega) (show 0 + 0 + 6 + 4 + 16 + 0 + 4 ≤ 122 from by omega) dL_does_321 (fun H1 hX z1 oe => ?_)
      have hS1 : va_S (rc_A sh s.heap.size) s.heap H1 locs := ⟨by rw [z1]; exact Nat.le_succ_of_le hS.1, fun q g1 g2 => (oe q (Nat.lt_of_lt_of_le g1 hS.1)).trans (hS.2.1 q g1 g2), hS.2.2⟩
      refine lv_dup hx hb dL_does_324 rfl ?_
      refine rc_gv (B := fun H2 => rc_V Y (rl_o rc_o0 Hq2.size g_J4_init_da8c8) H2 ∧ H2.size = Hq2.size + 2) hS1 (fun q h => Or.inr (Nat.le_trans hS.1 h)) (va_runI (As := []) (rest := [.ref Hq2.size, .ref o1, .ref a3]) ⟨hx, hb, hml, hown, hts⟩ (kd_J4_init_da8c8 l rc_o0 Hq2.size (Nat.le_trans hY0 hle)) (cwI 0 hts (rc_gI tw_2_53) rfl rfl rfl (hts _ tw_1_11) (hts _ tw_4_136) (hts _ tw_2_52) rfl (by decide +kernel) ⟨Nat.le_of_ble_eq_true rfl, Nat.le_of_ble_eq_true rfl⟩) (rl_pren (x0 := Y.1) (Nat.le_refl _) hK hE (rc_sb0 hX) z1 (rc_SB hT hE hS1) [.ref Hq2.size]) rfl rfl hl.1 rfl (lv_room (Nat.le_of_ble_eq_true rfl)) dL_does_325 ⟨show 0 + 0 + 1 + 1 + 1 + 0 + 1 + 1 ≤ 18 from by omega, show 0 + 0 + 6 + 4 + 16 + 0 + 4 + 16 ≤ 122 from by omega⟩) (fun Hq3 locs hV2 _ hq2 hS => ?_)
      obtain ⟨hV2, z2⟩ := hV2
      have e2 : ∀ q : Nat, q < Hq2.size → Hq3[q]? = Hq2[q]? := fun q h => (hq2 q (by rw [z1]; omega) (Nat.not_le.mpr h)).trans (oe q h)
      obtain ⟨shS_o, e1_o⟩ : ∃ f, f = shS := ⟨_, rfl⟩
      have hTS_o := hTS
      have hWS_o := hWS
      rw [← e1_o] at hTS_o hWS_o ho1
      obtain ⟨shS, rfS, σS, hTS, hWS, ho2, hbo2, hp2, hx2, hlo2⟩ := rc_sbX hTS hWS (Nat.le_trans hY0 hle) e2 hV2
      rw [← e1_o] at hx2
      have hW := hW.kept (fun q h => e2 q (hW.lt h))
      have hx24_1 : shS_o (o1 + 1) ≠ 0 := by
        have h9 := rc_t_11_0 hTS_o ho1
        rw [hbo1] at h9; rw [h9]; decide
      have hx11_1 : shS_o o1 ≠ 0 := by rw [ho1]; decide
      have hz1 : o1 + 1 < Hq2.size := hWS_o.lt hx24_1
      have hp1 := pB_f (σ' := σS) hp1 (hx2 _ hx11_1).2.2 (hx2 _ hx24_1).2.2
      have hbo1 : rfS o1 0 = o1 + 1 := by rw [(hx2 _ hx11_1).2.1]; exact hbo1
      have ho1 := ((hx2 _ hx11_1).1).trans ho1
      have hlo : ∀ q, shS q ≠ 0 → n0 ≤ q := fun q h => (hlo2 q h).elim (hlo q) (fun h => Nat.le_trans hle h)
      have hle2 : n0 ≤ Hq3.size := by rw [z2]; omega
      obtain ⟨o2, eo2⟩ : ∃ o, o = Hq2.size := ⟨_, rfl⟩
      rw [← eo2] at ho2 hbo2 hp2 hz1 ⊢
      have hle := hle2
      clear hX z1 oe hS1 hV2 z2 e2 hq2 hx2 hlo2 hle2
      refine va_ldcS hx hb hown (rc_E_R hE 9 (by decide)) dL_does_328 ?_
      show W p l e _ s m _ below meth c Hq3 locs _ _ _ (F0 m 330 ls (.ref (Y.2.2.2 9) :: [.ref o2, .ref o1, .ref a3]))
      obtain ⟨σS, hc, hp9, hf⟩ := pb_con (rf := rfS) hbo2 (by omega) hp2 (r := 9) (ds := [103]) (by simp) (by decide) pb_c9
      have hAS : ∀ q, rc_A shS Hq3.size q → rc_A sh s.heap.size q := fun q h => Or.inr (h.elim (fun h => Nat.le_trans hn0 (hlo q h)) (fun h => Nat.le_trans hS.1 h))
      have hB := rc_SB hT hE hS
      have hd : ∀ q, sh q ≠ 0 → shS q = 0 := fun q h => Classical.byContradiction (fun h2 => absurd (hMlt q h) (Nat.not_lt.mpr (hlo q h2)))
      refine rc_gr hS hAS (va_runV (As := [.ref (Y.2.2.2 9)]) (rest := [.ref o1, .ref a3]) ⟨hx, hb, hml, hown, hts⟩ (k_J4_append_15ec4_c l hTS o2 9 ho2 (by decide) Hq3.size _ _ _ hc) (cwV 1 hts (rc_gV tw_4_138 tw_4_139 tw_4_140 tw_1_11 tw_4_141) rfl rfl rfl (by decide +kernel) ⟨Nat.le_of_ble_eq_true rfl, Nat.le_of_ble_eq_true rfl⟩) (rc_preVB hWS hK hE hB ho2 (by decide) rfl (q := (RJ4, TJ4, 4)) rfl [.ref (Y.2.2.2 9)]) rfl rfl hl.1 rfl (lv_room (Nat.le_of_ble_eq_true rfl)) dL_does_330 ⟨show 0 + 0 + 1 + 1 + 1 + 0 + 1 + 1 + 0 ≤ 18 from by omega, show 0 + 0 + 6 + 4 + 16 + 0 + 4 + 16 + 0 ≤ 122 from by omega⟩) (fun Hq4 locs hWS hz9 hq9 hS => ?_)
      have hW := hW.keptA (sh := shS) hd (Nat.le_refl _) hq9
      have hle := Nat.le_trans hle hz9
      have hp1 := pB_f (σ' := σS) hp1 (hf _ (by omega) (by omega)) (hf _ (by omega) (by omega))
      have hp2 : pB σS o2 (o2 + 1) [103] := hp9
      clear hc hp9 hf hAS hd hq9 hz9
      refine lv_iload hx hb dL_does_333 (lv_at hl 6 rfl) ?_
      have ed : pq_dg v4 = [48 + v4] := if_pos hv4
      obtain ⟨σS, hc, hp9, hf⟩ := pb_num (rf := rfS) hbo2 (by omega) hp2 (v := v4) (by omega) (by rw [ed]; simp)
      rw [ed] at hp9
      have hAS : ∀ q, rc_A shS Hq4.size q → rc_A sh s.heap.size q := fun q h => Or.inr (h.elim (fun h => Nat.le_trans hn0 (hlo q h)) (fun h => Nat.le_trans hS.1 h))
      have hB := rc_SB hT hE hS
      have hd : ∀ q, sh q ≠ 0 → shS q = 0 := fun q h => Classical.byContradiction (fun h2 => absurd (hMlt q h) (Nat.not_lt.mpr (hlo q h2)))
      refine rc_gr hS hAS (va_runV (As := [.int (Int32.ofNat v4)]) (rest := [.ref o1, .ref a3]) ⟨hx, hb, hml, hown, hts⟩ (k_J4_append_bf812 l hTS o2 (Int32.ofNat v4) ho2 Hq4.size _ _ _ hc) (cwV 1 hts (rc_gV tw_5_15 tw_5_16 tw_5_17 tw_1_11 tw_5_18) rfl rfl rfl (by decide +kernel) ⟨Nat.le_of_ble_eq_true rfl, Nat.le_of_ble_eq_true rfl⟩) (rc_preVB hWS hK hE hB ho2 (by decide) rfl (q := (RJ4, TJ4, 4)) rfl [.int (Int32.ofNat v4)]) rfl rfl hl.1 rfl (lv_room (Nat.le_of_ble_eq_true rfl)) dL_does_335 ⟨show 0 + 0 + 1 + 1 + 1 + 0 + 1 + 1 + 0 + 0 ≤ 18 from by omega, show 0 + 0 + 6 + 4 + 16 + 0 + 4 + 16 + 0 + 0 ≤ 122 from by omega⟩) (fun Hq5 locs hWS hz9 hq9 hS => ?_)
      have hW := hW.keptA (sh := shS) hd (Nat.le_refl _) hq9
      have hle := Nat.le_trans hle hz9
      have hp1 := pB_f (σ' := σS) hp1 (hf _ (by omega) (by omega)) (hf _ (by omega) (by omega))
      have hp2 : pB σS o2 (o2 + 1) [103, 48 + v4] := hp9
      clear hc hp9 hf hAS hd hq9 hz9
      have hAS : ∀ q, rc_A shS Hq5.size q → rc_A sh s.heap.size q := fun q h => Or.inr (h.elim (fun h => Nat.le_trans hn0 (hlo q h)) (fun h => Nat.le_trans hS.1 h))
      have hB := rc_SB hT hE hS
      have hd : ∀ q, sh q ≠ 0 → shS q = 0 := fun q h => Classical.byContradiction (fun h2 => absurd (hMlt q h) (Nat.not_lt.mpr (hlo q h2)))
      refine rc_rcall (B := rc_pT Y shS rfS σS 12 (rc_gc (σS (rfS o2 0)) 2) Hq5.size) hS (fun q _ h => hAS q h) (fun q h => Or.inr (Nat.le_trans hS.1 h)) hAS (va_runV (As := []) (rest := [.ref o1, .ref a3]) ⟨hx, hb, hml, hown, hts⟩ (kn_J4_toString_0e30d_12 l hTS o2 ho2 Hq5.size σS hp2.1 (show σS o2 3 = (2 : Int32) from hp2.2.1) (by rw [hbo2]; exact pb_gc hp2 rfl)) (cwV 0 hts (rc_gV tw_5_41 tw_5_42 tw_5_43 tw_1_11 tw_5_44) rfl rfl rfl (by decide +kernel) ⟨Nat.le_of_ble_eq_true rfl, Nat.le_of_ble_eq_true rfl⟩) (rc_preVB hWS hK hE hB ho2 (by decide) rfl (q := (RJ4, TJ4, 4)) rfl []) rfl rfl hl.1 rfl (lv_room (Nat.le_of_ble_eq_true rfl)) dL_does_338 ⟨show 0 + 0 + 1 + 1 + 1 + 0 + 1 + 1 + 0 + 0 + 2 ≤ 18 from by omega, show 0 + 0 + 6 + 4 + 16 + 0 + 4 + 16 + 0 + 0 + 6 ≤ 122 from by omega⟩) (fun x2 Hq6 locs hBx hz9 hq9 hS => ?_)
      have hW := hW.keptA (sh := shS) hd (Nat.le_refl _) hq9
      rw [hbo2] at hBx
      obtain ⟨shS_o, e1_o⟩ : ∃ f, f = shS := ⟨_, rfl⟩
      have hTS_o := hTS
      have hWS_o := hWS
      rw [← e1_o] at hTS_o hWS_o ho1
      obtain ⟨shS, rfS, σS, hTS, hWS, hx2s, hxl2, hxa2, htx, hx2, hlo2⟩ := rc_stX (n := 2) hTS hWS (Nat.le_trans hY0 hle) (by decide) hBx hp2 rfl
      rw [← e1_o] at hx2
      have hx24_1 : shS_o (o1 + 1) ≠ 0 := by
        have h9 := rc_t_11_0 hTS_o ho1
        rw [hbo1] at h9; rw [h9]; decide
      have hx11_1 : shS_o o1 ≠ 0 := by rw [ho1]; decide
      have hz1 : o1 + 1 < Hq5.size := hWS_o.lt hx24_1
      have hp1 := pB_f (σ' := σS) hp1 (hx2 _ hx11_1).2.2 (hx2 _ hx24_1).2.2
      have hbo1 : rfS o1 0 = o1 + 1 := by rw [(hx2 _ hx11_1).2.1]; exact hbo1
      have ho1 := ((hx2 _ hx11_1).1).trans ho1
      have hlo : ∀ q, shS q ≠ 0 → n0 ≤ q := fun q h => (hlo2 q h).elim (hlo q) (fun h => Nat.le_trans hle h)
      have hle := Nat.le_trans hle hz9
      clear hBx hz9 hq9 hAS hd hx2 hlo2
      refine lv_goto (tgt := 402) hx hb dL_does_341 (by decide) ?_
      obtain ⟨σS, hc, hp9, hf⟩ := pb_str_12 (rf := rfS) hbo1 (by omega) hp1 (s := x2) (bs := rfS x2 0) rfl (by omega) (by omega) (by omega) htx rfl (by simp)
      have hAS : ∀ q, rc_A shS Hq6.size q → rc_A sh s.heap.size q := fun q h => Or.inr (h.elim (fun h => Nat.le_trans hn0 (hlo q h)) (fun h => Nat.le_trans hS.1 h))
      have hB := rc_SB hT hE hS
      have hd : ∀ q, sh q ≠ 0 → shS q = 0 := fun q h => Classical.byContradiction (fun h2 => absurd (hMlt q h) (Nat.not_lt.mpr (hlo q h2)))
      refine rc_gr hS hAS (va_runV (As := [.ref x2]) (rest := [.ref a3]) ⟨hx, hb, hml, hown, hts⟩ (k_J4_append_15ec4_12 l hTS o1 x2 ho1 hx2s Hq6.size _ _ _ hc) (cwV 1 hts (rc_gV tw_4_138 tw_4_139 tw_4_140 tw_1_11 tw_4_141) rfl rfl rfl (by decide +kernel) ⟨Nat.le_of_ble_eq_true rfl, Nat.le_of_ble_eq_true rfl⟩) (rc_preVB hWS hK hE hB ho1 (by decide) rfl (q := (RJ4, TJ4, 4)) rfl [.ref x2]) rfl rfl hl.1 rfl (lv_room (Nat.le_of_ble_eq_true rfl)) dL_does_402 ⟨show 0 + 0 + 1 + 1 + 1 + 0 + 1 + 1 + 0 + 0 + 2 + 0 ≤ 18 from by omega, show 0 + 0 + 6 + 4 + 16 + 0 + 4 + 16 + 0 + 0 + 6 + 0 ≤ 122 from by omega⟩) (fun Hq7 locs hWS hz9 hq9 hS => ?_)
      have hW := hW.keptA (sh := shS) hd (Nat.le_refl _) hq9
      have hle := Nat.le_trans hle hz9
      have hp1 : pB σS o1 (o1 + 1) [121, 59, 103, 48 + v4] := hp9
      clear hc hp9 hf hAS hd hq9 hz9
      have hAS : ∀ q, rc_A shS Hq7.size q → rc_A sh s.heap.size q := fun q h => Or.inr (h.elim (fun h => Nat.le_trans hn0 (hlo q h)) (fun h => Nat.le_trans hS.1 h))
      have hB := rc_SB hT hE hS
      have hd : ∀ q, sh q ≠ 0 → shS q = 0 := fun q h => Classical.byContradiction (fun h2 => absurd (hMlt q h) (Nat.not_lt.mpr (hlo q h2)))
      refine rc_rcall (B := rc_pT Y shS rfS σS 13 (rc_gc (σS (rfS o1 0)) 4) Hq7.size) hS (fun q _ h => hAS q h) (fun q h => Or.inr (Nat.le_trans hS.1 h)) hAS (va_runV (As := []) (rest := [.ref a3]) ⟨hx, hb, hml, hown, hts⟩ (kn_J4_toString_0e30d_13 l hTS o1 ho1 Hq7.size σS hp1.1 (show σS o1 3 = (4 : Int32) from hp1.2.1) (by rw [hbo1]; exact pb_gc hp1 rfl)) (cwV 0 hts (rc_gV tw_5_41 tw_5_42 tw_5_43 tw_1_11 tw_5_44) rfl rfl rfl (by decide +kernel) ⟨Nat.le_of_ble_eq_true rfl, Nat.le_of_ble_eq_true rfl⟩) (rc_preVB hWS hK hE hB ho1 (by decide) rfl (q := (RJ4, TJ4, 4)) rfl []) rfl rfl hl.1 rfl (lv_room (Nat.le_of_ble_eq_true rfl)) dL_does_405 ⟨show 0 + 0 + 1 + 1 + 1 + 0 + 1 + 1 + 0 + 0 + 2 + 0 + 2 ≤ 18 from by omega, show 0 + 0 + 6 + 4 + 16 + 0 + 4 + 16 + 0 + 0 + 6 + 0 + 8 ≤ 122 from by omega⟩) (fun x1 Hq8 locs hBx hz9 hq9 hS => ?_)
      have hW := hW.keptA (sh := shS) hd (Nat.le_refl _) hq9
      rw [hbo1] at hBx
      obtain ⟨shS_o, e1_o⟩ : ∃ f, f = shS := ⟨_, rfl⟩
      have hTS_o := hTS
      have hWS_o := hWS
      rw [← e1_o] at hTS_o hWS_o
      obtain ⟨shS, rfS, σS, hTS, hWS, hx1s, hxl1, hxa1, htx, hx2, hlo2⟩ := rc_stX (n := 4) hTS hWS (Nat.le_trans hY0 hle) (by decide) hBx hp1 rfl
      rw [← e1_o] at hx2
      have hlo : ∀ q, shS q ≠ 0 → n0 ≤ q := fun q h => (hlo2 q h).elim (hlo q) (fun h => Nat.le_trans hle h)
      have hle := Nat.le_trans hle hz9
      clear hBx hz9 hq9 hAS hd hx2 hlo2
      have hAS : ∀ q, rc_A shS Hq8.size q → rc_A sh s.heap.size q := fun q h => Or.inr (h.elim (fun h => Nat.le_trans hn0 (hlo q h)) (fun h => Nat.le_trans hS.1 h))
      have hB := rc_SB hT hE hS
      have hd : ∀ q, sh q ≠ 0 → shS q = 0 := fun q h => Classical.byContradiction (fun h2 => absurd (hMlt q h) (Nat.not_lt.mpr (hlo q h2)))
      have htx : pTx σS x1 (rfS x1 0) (tx1 v4) := htx
      refine rc_giA hS (fun q h => h.elim (fun h => Or.inr (Nat.le_trans hn0 (hlo q h))) (fun h => h.elim Or.inl (fun h => Or.inr (Nat.le_trans hS.1 h)))) (va_runS (As := [.ref a3, .ref x1]) (rest := []) ⟨hx, hb, hml, hown, hts⟩ (k_L_reads_13 l hl9 hT z a3 h3 hTS x1 hx1s hd (L := tx1 v4) rfl htx Hq8.size _ _ _ hm) (va_cwS 2 hts (rc_gS tw_5_112 tw_5_113 tw_1_0 tw_5_114) rfl rfl rfl (by decide +kernel) ⟨Nat.le_of_ble_eq_true rfl, Nat.le_of_ble_eq_true rfl⟩) (rc_preSR hW hWS hK hE hN hXz hB [.ref a3, .ref x1]) rfl rfl hl.1 rfl (lv_room (Nat.le_of_ble_eq_true rfl)) dL_does_408 ⟨show 0 + 0 + 1 + 1 + 1 + 0 + 1 + 1 + 0 + 0 + 2 + 0 + 2 + 5 ≤ 18 from by omega, show 0 + 0 + 6 + 4 + 16 + 0 + 4 + 16 + 0 + 0 + 6 + 0 + 8 + 30 ≤ 122 from by omega⟩) (fun Hq9 locs hW hS => ?_)
      exact rc_eiret hx hb hr hlocks hW hS (by omega) (by omega) rfl dL_does_411
    · replace hm := rc_f hm c4_1
      by_cases c4_2 : (w_1 - w_1 / (4 : Int32) * (4 : Int32)) = (2 : Int32)
      · replace hm := rc_t hm c4_2
        obtain ⟨v4, hv4, e4, en4⟩ := rc_smI (rc_ck_inv hm).1
        replace hm := (rc_ck_inv hm).2
        obtain ⟨v7, hv7, e7, en7⟩ := rc_smI (rc_ck_inv hm).1
        replace hm := (rc_ck_inv hm).2
        obtain ⟨y, hy, ey, eyn⟩ := rc_smI (rc_ck_inv hm).1
        replace hm := (rc_ck_inv hm).2
        rw [en4, en7, eyn] at hm
        subst e4
        subst e7
        refine lv_aload_n hx hb dL_does_265 rfl (lv_at hl 5 rfl) ?_
        refine rc_newR (C := RJ4) (T := TJ4) (N := 4) (ci := 1) (fs := [.null, .int 0, .int 0, .int 0]) hx hb hts in_11 tyJ4 tyJ4_ok hown (hts _ tw_4_135) (hts _ tw_2_50) (hts _ tw_1_11) hK rfl (fun j hj => by
          rcases (show j = 0 ∨ j = 1 ∨ j = 2 ∨ j = 3 by omega) with rfl | rfl | rfl | rfl <;> rfl) (show 0 + 0 + 1 + 1 ≤ 18 from by omega) (show 0 + 0 + 6 + 4 ≤ 122 from by omega) dL_does_266 (fun H1 hX z1 oe => ?_)
        have hS1 : va_S (rc_A sh s.heap.size) s.heap H1 locs := ⟨by rw [z1]; exact Nat.le_succ_of_le hS.1, fun q g1 g2 => (oe q (Nat.lt_of_lt_of_le g1 hS.1)).trans (hS.2.1 q g1 g2), hS.2.2⟩
        refine lv_dup hx hb dL_does_269 rfl ?_
        refine rc_gv (B := fun H2 => rc_V Y (rl_o rc_o0 H.size g_J4_init_da8c8) H2 ∧ H2.size = H.size + 2) hS1 (fun q h => Or.inr (Nat.le_trans hS.1 h)) (va_runI (As := []) (rest := [.ref H.size, .ref a3]) ⟨hx, hb, hml, hown, hts⟩ (kd_J4_init_da8c8 l rc_o0 H.size (Nat.le_trans hY0 hle)) (cwI 0 hts (rc_gI tw_2_53) rfl rfl rfl (hts _ tw_1_11) (hts _ tw_4_136) (hts _ tw_2_52) rfl (by decide +kernel) ⟨Nat.le_of_ble_eq_true rfl, Nat.le_of_ble_eq_true rfl⟩) (rl_pren (x0 := Y.1) (Nat.le_refl _) hK hE (rc_sb0 hX) z1 (rc_SB hT hE hS1) [.ref H.size]) rfl rfl hl.1 rfl (lv_room (Nat.le_of_ble_eq_true rfl)) dL_does_270 ⟨show 0 + 0 + 1 + 1 + 1 ≤ 18 from by omega, show 0 + 0 + 6 + 4 + 16 ≤ 122 from by omega⟩) (fun Hq1 locs hV2 _ hq2 hS => ?_)
        obtain ⟨hV2, z2⟩ := hV2
        have e2 : ∀ q : Nat, q < H.size → Hq1[q]? = H[q]? := fun q h => (hq2 q (by rw [z1]; omega) (Nat.not_le.mpr h)).trans (oe q h)
        obtain ⟨shS_o, e1_o⟩ : ∃ f, f = shS := ⟨_, rfl⟩
        have hTS_o := hTS
        have hWS_o := hWS
        rw [← e1_o] at hTS_o hWS_o
        obtain ⟨shS, rfS, σS, hTS, hWS, ho1, hbo1, hp1, hx2, hlo2⟩ := rc_sbX hTS hWS (Nat.le_trans hY0 hle) e2 hV2
        rw [← e1_o] at hx2
        have hW := hW.kept (fun q h => e2 q (hW.lt h))
        have hlo : ∀ q, shS q ≠ 0 → n0 ≤ q := fun q h => (hlo2 q h).elim (hlo q) (fun h => Nat.le_trans hle h)
        have hle2 : n0 ≤ Hq1.size := by rw [z2]; omega
        obtain ⟨o1, eo1⟩ : ∃ o, o = H.size := ⟨_, rfl⟩
        rw [← eo1] at ho1 hbo1 hp1 ⊢
        have hle := hle2
        clear hX z1 oe hS1 hV2 z2 e2 hq2 hx2 hlo2 hle2
        refine va_ldcS hx hb hown (rc_E_R hE 6 (by decide)) dL_does_273 ?_
        show W p l e _ s m _ below meth c Hq1 locs _ _ _ (F0 m 275 ls (.ref (Y.2.2.2 6) :: [.ref o1, .ref a3]))
        obtain ⟨σS, hc, hp9, hf⟩ := pb_con (rf := rfS) hbo1 (by omega) hp1 (r := 6) (ds := [121, 59]) (by simp) (by decide) pb_c6
        have hAS : ∀ q, rc_A shS Hq1.size q → rc_A sh s.heap.size q := fun q h => Or.inr (h.elim (fun h => Nat.le_trans hn0 (hlo q h)) (fun h => Nat.le_trans hS.1 h))
        have hB := rc_SB hT hE hS
        have hd : ∀ q, sh q ≠ 0 → shS q = 0 := fun q h => Classical.byContradiction (fun h2 => absurd (hMlt q h) (Nat.not_lt.mpr (hlo q h2)))
        refine rc_gr hS hAS (va_runV (As := [.ref (Y.2.2.2 6)]) (rest := [.ref a3]) ⟨hx, hb, hml, hown, hts⟩ (k_J4_append_15ec4_c l hTS o1 6 ho1 (by decide) Hq1.size _ _ _ hc) (cwV 1 hts (rc_gV tw_4_138 tw_4_139 tw_4_140 tw_1_11 tw_4_141) rfl rfl rfl (by decide +kernel) ⟨Nat.le_of_ble_eq_true rfl, Nat.le_of_ble_eq_true rfl⟩) (rc_preVB hWS hK hE hB ho1 (by decide) rfl (q := (RJ4, TJ4, 4)) rfl [.ref (Y.2.2.2 6)]) rfl rfl hl.1 rfl (lv_room (Nat.le_of_ble_eq_true rfl)) dL_does_275 ⟨show 0 + 0 + 1 + 1 + 1 + 0 ≤ 18 from by omega, show 0 + 0 + 6 + 4 + 16 + 0 ≤ 122 from by omega⟩) (fun Hq2 locs hWS hz9 hq9 hS => ?_)
        have hW := hW.keptA (sh := shS) hd (Nat.le_refl _) hq9
        have hle := Nat.le_trans hle hz9
        have hp1 : pB σS o1 (o1 + 1) [121, 59] := hp9
        clear hc hp9 hf hAS hd hq9 hz9
        refine lv_iload hx hb dL_does_278 (lv_at hl 1 rfl) ?_
        refine lv_iconst (v := 4) hx hb dL_does_280 (by decide) ?_
        refine lv_irem hx hb dL_does_281 (by decide) ?_
        refine lv_if_ne (tgt := 313) hx hb dL_does_282 (by decide) (fun _ => ?_) (fun c9 => absurd c9 c4_0)
        refine lv_iload hx hb dL_does_313 (lv_at hl 1 rfl) ?_
        refine lv_iconst (v := 4) hx hb dL_does_315 (by decide) ?_
        refine lv_irem hx hb dL_does_316 (by decide) ?_
        refine lv_iconst (v := 1) hx hb dL_does_317 (by decide) ?_
        refine lv_icmp_ne (tgt := 344) hx hb dL_does_318 (by decide) (fun _ => ?_) (fun c9 => absurd c9 c4_1)
        refine lv_iload hx hb dL_does_344 (lv_at hl 1 rfl) ?_
        refine lv_iconst (v := 4) hx hb dL_does_346 (by decide) ?_
        refine lv_irem hx hb dL_does_347 (by decide) ?_
        refine lv_iconst (v := 2) hx hb dL_does_348 (by decide) ?_
        refine lv_icmp_ne (tgt := 400) hx hb dL_does_349 (by decide) (fun c9 => absurd c4_2 c9) (fun _ => ?_)
        refine rc_newR (C := RJ4) (T := TJ4) (N := 4) (ci := 1) (fs := [.null, .int 0, .int 0, .int 0]) hx hb hts in_11 tyJ4 tyJ4_ok hown (hts _ tw_4_135) (hts _ tw_2_50) (hts _ tw_1_11) hK rfl (fun j hj => by
          rcases (show j = 0 ∨ j = 1 ∨ j = 2 ∨ j = 3 by omega) with rfl | rfl | rfl | rfl <;> rfl) (show 0 + 0 + 1 + 1 + 1 + 0 + 1 ≤ 18 from by omega) (show 0 + 0 + 6 + 4 + 16 + 0 + 4 ≤ 122 from by omega) dL_does_352 (fun H1 hX z1 oe => ?_)
        have hS1 : va_S (rc_A sh s.heap.size) s.heap H1 locs := ⟨by rw [z1]; exact Nat.le_succ_of_le hS.1, fun q g1 g2 => (oe q (Nat.lt_of_lt_of_le g1 hS.1)).trans (hS.2.1 q g1 g2), hS.2.2⟩
        refine lv_dup hx hb dL_does_355 rfl ?_
        refine rc_gv (B := fun H2 => rc_V Y (rl_o rc_o0 Hq2.size g_J4_init_da8c8) H2 ∧ H2.size = Hq2.size + 2) hS1 (fun q h => Or.inr (Nat.le_trans hS.1 h)) (va_runI (As := []) (rest := [.ref Hq2.size, .ref o1, .ref a3]) ⟨hx, hb, hml, hown, hts⟩ (kd_J4_init_da8c8 l rc_o0 Hq2.size (Nat.le_trans hY0 hle)) (cwI 0 hts (rc_gI tw_2_53) rfl rfl rfl (hts _ tw_1_11) (hts _ tw_4_136) (hts _ tw_2_52) rfl (by decide +kernel) ⟨Nat.le_of_ble_eq_true rfl, Nat.le_of_ble_eq_true rfl⟩) (rl_pren (x0 := Y.1) (Nat.le_refl _) hK hE (rc_sb0 hX) z1 (rc_SB hT hE hS1) [.ref Hq2.size]) rfl rfl hl.1 rfl (lv_room (Nat.le_of_ble_eq_true rfl)) dL_does_356 ⟨show 0 + 0 + 1 + 1 + 1 + 0 + 1 + 1 ≤ 18 from by omega, show 0 + 0 + 6 + 4 + 16 + 0 + 4 + 16 ≤ 122 from by omega⟩) (fun Hq3 locs hV2 _ hq2 hS => ?_)
        obtain ⟨hV2, z2⟩ := hV2
        have e2 : ∀ q : Nat, q < Hq2.size → Hq3[q]? = Hq2[q]? := fun q h => (hq2 q (by rw [z1]; omega) (Nat.not_le.mpr h)).trans (oe q h)
        obtain ⟨shS_o, e1_o⟩ : ∃ f, f = shS := ⟨_, rfl⟩
        have hTS_o := hTS
        have hWS_o := hWS
        rw [← e1_o] at hTS_o hWS_o ho1
        obtain ⟨shS, rfS, σS, hTS, hWS, ho2, hbo2, hp2, hx2, hlo2⟩ := rc_sbX hTS hWS (Nat.le_trans hY0 hle) e2 hV2
        rw [← e1_o] at hx2
        have hW := hW.kept (fun q h => e2 q (hW.lt h))
        have hx24_1 : shS_o (o1 + 1) ≠ 0 := by
          have h9 := rc_t_11_0 hTS_o ho1
          rw [hbo1] at h9; rw [h9]; decide
        have hx11_1 : shS_o o1 ≠ 0 := by rw [ho1]; decide
        have hz1 : o1 + 1 < Hq2.size := hWS_o.lt hx24_1
        have hp1 := pB_f (σ' := σS) hp1 (hx2 _ hx11_1).2.2 (hx2 _ hx24_1).2.2
        have hbo1 : rfS o1 0 = o1 + 1 := by rw [(hx2 _ hx11_1).2.1]; exact hbo1
        have ho1 := ((hx2 _ hx11_1).1).trans ho1
        have hlo : ∀ q, shS q ≠ 0 → n0 ≤ q := fun q h => (hlo2 q h).elim (hlo q) (fun h => Nat.le_trans hle h)
        have hle2 : n0 ≤ Hq3.size := by rw [z2]; omega
        obtain ⟨o2, eo2⟩ : ∃ o, o = Hq2.size := ⟨_, rfl⟩
        rw [← eo2] at ho2 hbo2 hp2 hz1 ⊢
        have hle := hle2
        clear hX z1 oe hS1 hV2 z2 e2 hq2 hx2 hlo2 hle2
        refine va_ldcS hx hb hown (rc_E_R hE 10 (by decide)) dL_does_359 ?_
        show W p l e _ s m _ below meth c Hq3 locs _ _ _ (F0 m 361 ls (.ref (Y.2.2.2 10) :: [.ref o2, .ref o1, .ref a3]))
        obtain ⟨σS, hc, hp9, hf⟩ := pb_con (rf := rfS) hbo2 (by omega) hp2 (r := 10) (ds := [112]) (by simp) (by decide) pb_c10
        have hAS : ∀ q, rc_A shS Hq3.size q → rc_A sh s.heap.size q := fun q h => Or.inr (h.elim (fun h => Nat.le_trans hn0 (hlo q h)) (fun h => Nat.le_trans hS.1 h))
        have hB := rc_SB hT hE hS
        have hd : ∀ q, sh q ≠ 0 → shS q = 0 := fun q h => Classical.byContradiction (fun h2 => absurd (hMlt q h) (Nat.not_lt.mpr (hlo q h2)))
        refine rc_gr hS hAS (va_runV (As := [.ref (Y.2.2.2 10)]) (rest := [.ref o1, .ref a3]) ⟨hx, hb, hml, hown, hts⟩ (k_J4_append_15ec4_c l hTS o2 10 ho2 (by decide) Hq3.size _ _ _ hc) (cwV 1 hts (rc_gV tw_4_138 tw_4_139 tw_4_140 tw_1_11 tw_4_141) rfl rfl rfl (by decide +kernel) ⟨Nat.le_of_ble_eq_true rfl, Nat.le_of_ble_eq_true rfl⟩) (rc_preVB hWS hK hE hB ho2 (by decide) rfl (q := (RJ4, TJ4, 4)) rfl [.ref (Y.2.2.2 10)]) rfl rfl hl.1 rfl (lv_room (Nat.le_of_ble_eq_true rfl)) dL_does_361 ⟨show 0 + 0 + 1 + 1 + 1 + 0 + 1 + 1 + 0 ≤ 18 from by omega, show 0 + 0 + 6 + 4 + 16 + 0 + 4 + 16 + 0 ≤ 122 from by omega⟩) (fun Hq4 locs hWS hz9 hq9 hS => ?_)
        have hW := hW.keptA (sh := shS) hd (Nat.le_refl _) hq9
        have hle := Nat.le_trans hle hz9
        have hp1 := pB_f (σ' := σS) hp1 (hf _ (by omega) (by omega)) (hf _ (by omega) (by omega))
        have hp2 : pB σS o2 (o2 + 1) [112] := hp9
        clear hc hp9 hf hAS hd hq9 hz9
        refine lv_iload hx hb dL_does_364 (lv_at hl 6 rfl) ?_
        have ed : pq_dg v4 = [48 + v4] := if_pos hv4
        obtain ⟨σS, hc, hp9, hf⟩ := pb_num (rf := rfS) hbo2 (by omega) hp2 (v := v4) (by omega) (by rw [ed]; simp)
        rw [ed] at hp9
        have hAS : ∀ q, rc_A shS Hq4.size q → rc_A sh s.heap.size q := fun q h => Or.inr (h.elim (fun h => Nat.le_trans hn0 (hlo q h)) (fun h => Nat.le_trans hS.1 h))
        have hB := rc_SB hT hE hS
        have hd : ∀ q, sh q ≠ 0 → shS q = 0 := fun q h => Classical.byContradiction (fun h2 => absurd (hMlt q h) (Nat.not_lt.mpr (hlo q h2)))
        refine rc_gr hS hAS (va_runV (As := [.int (Int32.ofNat v4)]) (rest := [.ref o1, .ref a3]) ⟨hx, hb, hml, hown, hts⟩ (k_J4_append_bf812 l hTS o2 (Int32.ofNat v4) ho2 Hq4.size _ _ _ hc) (cwV 1 hts (rc_gV tw_5_15 tw_5_16 tw_5_17 tw_1_11 tw_5_18) rfl rfl rfl (by decide +kernel) ⟨Nat.le_of_ble_eq_true rfl, Nat.le_of_ble_eq_true rfl⟩) (rc_preVB hWS hK hE hB ho2 (by decide) rfl (q := (RJ4, TJ4, 4)) rfl [.int (Int32.ofNat v4)]) rfl rfl hl.1 rfl (lv_room (Nat.le_of_ble_eq_true rfl)) dL_does_366 ⟨show 0 + 0 + 1 + 1 + 1 + 0 + 1 + 1 + 0 + 0 ≤ 18 from by omega, show 0 + 0 + 6 + 4 + 16 + 0 + 4 + 16 + 0 + 0 ≤ 122 from by omega⟩) (fun Hq5 locs hWS hz9 hq9 hS => ?_)
        have hW := hW.keptA (sh := shS) hd (Nat.le_refl _) hq9
        have hle := Nat.le_trans hle hz9
        have hp1 := pB_f (σ' := σS) hp1 (hf _ (by omega) (by omega)) (hf _ (by omega) (by omega))
        have hp2 : pB σS o2 (o2 + 1) [112, 48 + v4] := hp9
        clear hc hp9 hf hAS hd hq9 hz9
        refine va_ldcS hx hb hown (rc_E_R hE 11 (by decide)) dL_does_369 ?_
        show W p l e _ s m _ below meth c Hq5 locs _ _ _ (F0 m 371 ls (.ref (Y.2.2.2 11) :: [.ref o2, .ref o1, .ref a3]))
        obtain ⟨σS, hc, hp9, hf⟩ := pb_con (rf := rfS) hbo2 (by omega) hp2 (r := 11) (ds := [62]) (by simp) (by decide) pb_c11
        have hAS : ∀ q, rc_A shS Hq5.size q → rc_A sh s.heap.size q := fun q h => Or.inr (h.elim (fun h => Nat.le_trans hn0 (hlo q h)) (fun h => Nat.le_trans hS.1 h))
        have hB := rc_SB hT hE hS
        have hd : ∀ q, sh q ≠ 0 → shS q = 0 := fun q h => Classical.byContradiction (fun h2 => absurd (hMlt q h) (Nat.not_lt.mpr (hlo q h2)))
        refine rc_gr hS hAS (va_runV (As := [.ref (Y.2.2.2 11)]) (rest := [.ref o1, .ref a3]) ⟨hx, hb, hml, hown, hts⟩ (k_J4_append_15ec4_c l hTS o2 11 ho2 (by decide) Hq5.size _ _ _ hc) (cwV 1 hts (rc_gV tw_4_138 tw_4_139 tw_4_140 tw_1_11 tw_4_141) rfl rfl rfl (by decide +kernel) ⟨Nat.le_of_ble_eq_true rfl, Nat.le_of_ble_eq_true rfl⟩) (rc_preVB hWS hK hE hB ho2 (by decide) rfl (q := (RJ4, TJ4, 4)) rfl [.ref (Y.2.2.2 11)]) rfl rfl hl.1 rfl (lv_room (Nat.le_of_ble_eq_true rfl)) dL_does_371 ⟨show 0 + 0 + 1 + 1 + 1 + 0 + 1 + 1 + 0 + 0 + 0 ≤ 18 from by omega, show 0 + 0 + 6 + 4 + 16 + 0 + 4 + 16 + 0 + 0 + 0 ≤ 122 from by omega⟩) (fun Hq6 locs hWS hz9 hq9 hS => ?_)
        have hW := hW.keptA (sh := shS) hd (Nat.le_refl _) hq9
        have hle := Nat.le_trans hle hz9
        have hp1 := pB_f (σ' := σS) hp1 (hf _ (by omega) (by omega)) (hf _ (by omega) (by omega))
        have hp2 : pB σS o2 (o2 + 1) [112, 48 + v4, 62] := hp9
        clear hc hp9 hf hAS hd hq9 hz9
        refine lv_iload hx hb dL_does_374 (lv_at hl 0 rfl) ?_
        have ed : pq_dg v7 = [48 + v7] := if_pos hv7
        obtain ⟨σS, hc, hp9, hf⟩ := pb_num (rf := rfS) hbo2 (by omega) hp2 (v := v7) (by omega) (by rw [ed]; simp)
        rw [ed] at hp9
        have hAS : ∀ q, rc_A shS Hq6.size q → rc_A sh s.heap.size q := fun q h => Or.inr (h.elim (fun h => Nat.le_trans hn0 (hlo q h)) (fun h => Nat.le_trans hS.1 h))
        have hB := rc_SB hT hE hS
        have hd : ∀ q, sh q ≠ 0 → shS q = 0 := fun q h => Classical.byContradiction (fun h2 => absurd (hMlt q h) (Nat.not_lt.mpr (hlo q h2)))
        refine rc_gr hS hAS (va_runV (As := [.int (Int32.ofNat v7)]) (rest := [.ref o1, .ref a3]) ⟨hx, hb, hml, hown, hts⟩ (k_J4_append_bf812 l hTS o2 (Int32.ofNat v7) ho2 Hq6.size _ _ _ hc) (cwV 1 hts (rc_gV tw_5_15 tw_5_16 tw_5_17 tw_1_11 tw_5_18) rfl rfl rfl (by decide +kernel) ⟨Nat.le_of_ble_eq_true rfl, Nat.le_of_ble_eq_true rfl⟩) (rc_preVB hWS hK hE hB ho2 (by decide) rfl (q := (RJ4, TJ4, 4)) rfl [.int (Int32.ofNat v7)]) rfl rfl hl.1 rfl (lv_room (Nat.le_of_ble_eq_true rfl)) dL_does_376 ⟨show 0 + 0 + 1 + 1 + 1 + 0 + 1 + 1 + 0 + 0 + 0 + 0 ≤ 18 from by omega, show 0 + 0 + 6 + 4 + 16 + 0 + 4 + 16 + 0 + 0 + 0 + 0 ≤ 122 from by omega⟩) (fun Hq7 locs hWS hz9 hq9 hS => ?_)
        have hW := hW.keptA (sh := shS) hd (Nat.le_refl _) hq9
        have hle := Nat.le_trans hle hz9
        have hp1 := pB_f (σ' := σS) hp1 (hf _ (by omega) (by omega)) (hf _ (by omega) (by omega))
        have hp2 : pB σS o2 (o2 + 1) [112, 48 + v4, 62, 48 + v7] := hp9
        clear hc hp9 hf hAS hd hq9 hz9
        refine va_ldcS hx hb hown (rc_E_R hE 12 (by decide)) dL_does_379 ?_
        show W p l e _ s m _ below meth c Hq7 locs _ _ _ (F0 m 381 ls (.ref (Y.2.2.2 12) :: [.ref o2, .ref o1, .ref a3]))
        obtain ⟨σS, hc, hp9, hf⟩ := pb_con (rf := rfS) hbo2 (by omega) hp2 (r := 12) (ds := [61]) (by simp) (by decide) pb_c12
        have hAS : ∀ q, rc_A shS Hq7.size q → rc_A sh s.heap.size q := fun q h => Or.inr (h.elim (fun h => Nat.le_trans hn0 (hlo q h)) (fun h => Nat.le_trans hS.1 h))
        have hB := rc_SB hT hE hS
        have hd : ∀ q, sh q ≠ 0 → shS q = 0 := fun q h => Classical.byContradiction (fun h2 => absurd (hMlt q h) (Nat.not_lt.mpr (hlo q h2)))
        refine rc_gr hS hAS (va_runV (As := [.ref (Y.2.2.2 12)]) (rest := [.ref o1, .ref a3]) ⟨hx, hb, hml, hown, hts⟩ (k_J4_append_15ec4_c l hTS o2 12 ho2 (by decide) Hq7.size _ _ _ hc) (cwV 1 hts (rc_gV tw_4_138 tw_4_139 tw_4_140 tw_1_11 tw_4_141) rfl rfl rfl (by decide +kernel) ⟨Nat.le_of_ble_eq_true rfl, Nat.le_of_ble_eq_true rfl⟩) (rc_preVB hWS hK hE hB ho2 (by decide) rfl (q := (RJ4, TJ4, 4)) rfl [.ref (Y.2.2.2 12)]) rfl rfl hl.1 rfl (lv_room (Nat.le_of_ble_eq_true rfl)) dL_does_381 ⟨show 0 + 0 + 1 + 1 + 1 + 0 + 1 + 1 + 0 + 0 + 0 + 0 + 0 ≤ 18 from by omega, show 0 + 0 + 6 + 4 + 16 + 0 + 4 + 16 + 0 + 0 + 0 + 0 + 0 ≤ 122 from by omega⟩) (fun Hq8 locs hWS hz9 hq9 hS => ?_)
        have hW := hW.keptA (sh := shS) hd (Nat.le_refl _) hq9
        have hle := Nat.le_trans hle hz9
        have hp1 := pB_f (σ' := σS) hp1 (hf _ (by omega) (by omega)) (hf _ (by omega) (by omega))
        have hp2 : pB σS o2 (o2 + 1) [112, 48 + v4, 62, 48 + v7, 61] := hp9
        clear hc hp9 hf hAS hd hq9 hz9
        refine lv_iconst (v := 1) hx hb dL_does_384 (by decide) ?_
        refine lv_iload hx hb dL_does_385 (lv_at hl 1 rfl) ?_
        refine lv_bipush (v := 7) hx hb dL_does_387 (by decide) ?_
        refine lv_irem hx hb dL_does_389 (by decide) ?_
        refine lv_iadd hx hb dL_does_390 ?_
        rw [ey]
        have ed : pq_dg y = [48 + y] := if_pos hy
        obtain ⟨σS, hc, hp9, hf⟩ := pb_num (rf := rfS) hbo2 (by omega) hp2 (v := y) (by omega) (by rw [ed]; simp)
        rw [ed] at hp9
        have hAS : ∀ q, rc_A shS Hq8.size q → rc_A sh s.heap.size q := fun q h => Or.inr (h.elim (fun h => Nat.le_trans hn0 (hlo q h)) (fun h => Nat.le_trans hS.1 h))
        have hB := rc_SB hT hE hS
        have hd : ∀ q, sh q ≠ 0 → shS q = 0 := fun q h => Classical.byContradiction (fun h2 => absurd (hMlt q h) (Nat.not_lt.mpr (hlo q h2)))
        refine rc_gr hS hAS (va_runV (As := [.int (Int32.ofNat y)]) (rest := [.ref o1, .ref a3]) ⟨hx, hb, hml, hown, hts⟩ (k_J4_append_bf812 l hTS o2 (Int32.ofNat y) ho2 Hq8.size _ _ _ hc) (cwV 1 hts (rc_gV tw_5_15 tw_5_16 tw_5_17 tw_1_11 tw_5_18) rfl rfl rfl (by decide +kernel) ⟨Nat.le_of_ble_eq_true rfl, Nat.le_of_ble_eq_true rfl⟩) (rc_preVB hWS hK hE hB ho2 (by decide) rfl (q := (RJ4, TJ4, 4)) rfl [.int (Int32.ofNat y)]) rfl rfl hl.1 rfl (lv_room (Nat.le_of_ble_eq_true rfl)) dL_does_391 ⟨show 0 + 0 + 1 + 1 + 1 + 0 + 1 + 1 + 0 + 0 + 0 + 0 + 0 + 0 ≤ 18 from by omega, show 0 + 0 + 6 + 4 + 16 + 0 + 4 + 16 + 0 + 0 + 0 + 0 + 0 + 0 ≤ 122 from by omega⟩) (fun Hq9 locs hWS hz9 hq9 hS => ?_)
        have hW := hW.keptA (sh := shS) hd (Nat.le_refl _) hq9
        have hle := Nat.le_trans hle hz9
        have hp1 := pB_f (σ' := σS) hp1 (hf _ (by omega) (by omega)) (hf _ (by omega) (by omega))
        have hp2 : pB σS o2 (o2 + 1) [112, 48 + v4, 62, 48 + v7, 61, 48 + y] := hp9
        clear hc hp9 hf hAS hd hq9 hz9
        have hAS : ∀ q, rc_A shS Hq9.size q → rc_A sh s.heap.size q := fun q h => Or.inr (h.elim (fun h => Nat.le_trans hn0 (hlo q h)) (fun h => Nat.le_trans hS.1 h))
        have hB := rc_SB hT hE hS
        have hd : ∀ q, sh q ≠ 0 → shS q = 0 := fun q h => Classical.byContradiction (fun h2 => absurd (hMlt q h) (Nat.not_lt.mpr (hlo q h2)))
        refine rc_rcall (B := rc_pT Y shS rfS σS 14 (rc_gc (σS (rfS o2 0)) 6) Hq9.size) hS (fun q _ h => hAS q h) (fun q h => Or.inr (Nat.le_trans hS.1 h)) hAS (va_runV (As := []) (rest := [.ref o1, .ref a3]) ⟨hx, hb, hml, hown, hts⟩ (kn_J4_toString_0e30d_14 l hTS o2 ho2 Hq9.size σS hp2.1 (show σS o2 3 = (6 : Int32) from hp2.2.1) (by rw [hbo2]; exact pb_gc hp2 rfl)) (cwV 0 hts (rc_gV tw_5_41 tw_5_42 tw_5_43 tw_1_11 tw_5_44) rfl rfl rfl (by decide +kernel) ⟨Nat.le_of_ble_eq_true rfl, Nat.le_of_ble_eq_true rfl⟩) (rc_preVB hWS hK hE hB ho2 (by decide) rfl (q := (RJ4, TJ4, 4)) rfl []) rfl rfl hl.1 rfl (lv_room (Nat.le_of_ble_eq_true rfl)) dL_does_394 ⟨show 0 + 0 + 1 + 1 + 1 + 0 + 1 + 1 + 0 + 0 + 0 + 0 + 0 + 0 + 2 ≤ 18 from by omega, show 0 + 0 + 6 + 4 + 16 + 0 + 4 + 16 + 0 + 0 + 0 + 0 + 0 + 0 + 10 ≤ 122 from by omega⟩) (fun x2 Hq10 locs hBx hz9 hq9 hS => ?_)
        have hW := hW.keptA (sh := shS) hd (Nat.le_refl _) hq9
        rw [hbo2] at hBx
        obtain ⟨shS_o, e1_o⟩ : ∃ f, f = shS := ⟨_, rfl⟩
        have hTS_o := hTS
        have hWS_o := hWS
        rw [← e1_o] at hTS_o hWS_o ho1
        obtain ⟨shS, rfS, σS, hTS, hWS, hx2s, hxl2, hxa2, htx, hx2, hlo2⟩ := rc_stX (n := 6) hTS hWS (Nat.le_trans hY0 hle) (by decide) hBx hp2 rfl
        rw [← e1_o] at hx2
        have hx24_1 : shS_o (o1 + 1) ≠ 0 := by
          have h9 := rc_t_11_0 hTS_o ho1
          rw [hbo1] at h9; rw [h9]; decide
        have hx11_1 : shS_o o1 ≠ 0 := by rw [ho1]; decide
        have hz1 : o1 + 1 < Hq9.size := hWS_o.lt hx24_1
        have hp1 := pB_f (σ' := σS) hp1 (hx2 _ hx11_1).2.2 (hx2 _ hx24_1).2.2
        have hbo1 : rfS o1 0 = o1 + 1 := by rw [(hx2 _ hx11_1).2.1]; exact hbo1
        have ho1 := ((hx2 _ hx11_1).1).trans ho1
        have hlo : ∀ q, shS q ≠ 0 → n0 ≤ q := fun q h => (hlo2 q h).elim (hlo q) (fun h => Nat.le_trans hle h)
        have hle := Nat.le_trans hle hz9
        clear hBx hz9 hq9 hAS hd hx2 hlo2
        refine lv_goto (tgt := 402) hx hb dL_does_397 (by decide) ?_
        obtain ⟨σS, hc, hp9, hf⟩ := pb_str_14 (rf := rfS) hbo1 (by omega) hp1 (s := x2) (bs := rfS x2 0) rfl (by omega) (by omega) (by omega) htx rfl (by simp)
        have hAS : ∀ q, rc_A shS Hq10.size q → rc_A sh s.heap.size q := fun q h => Or.inr (h.elim (fun h => Nat.le_trans hn0 (hlo q h)) (fun h => Nat.le_trans hS.1 h))
        have hB := rc_SB hT hE hS
        have hd : ∀ q, sh q ≠ 0 → shS q = 0 := fun q h => Classical.byContradiction (fun h2 => absurd (hMlt q h) (Nat.not_lt.mpr (hlo q h2)))
        refine rc_gr hS hAS (va_runV (As := [.ref x2]) (rest := [.ref a3]) ⟨hx, hb, hml, hown, hts⟩ (k_J4_append_15ec4_14 l hTS o1 x2 ho1 hx2s Hq10.size _ _ _ hc) (cwV 1 hts (rc_gV tw_4_138 tw_4_139 tw_4_140 tw_1_11 tw_4_141) rfl rfl rfl (by decide +kernel) ⟨Nat.le_of_ble_eq_true rfl, Nat.le_of_ble_eq_true rfl⟩) (rc_preVB hWS hK hE hB ho1 (by decide) rfl (q := (RJ4, TJ4, 4)) rfl [.ref x2]) rfl rfl hl.1 rfl (lv_room (Nat.le_of_ble_eq_true rfl)) dL_does_402 ⟨show 0 + 0 + 1 + 1 + 1 + 0 + 1 + 1 + 0 + 0 + 0 + 0 + 0 + 0 + 2 + 0 ≤ 18 from by omega, show 0 + 0 + 6 + 4 + 16 + 0 + 4 + 16 + 0 + 0 + 0 + 0 + 0 + 0 + 10 + 0 ≤ 122 from by omega⟩) (fun Hq11 locs hWS hz9 hq9 hS => ?_)
        have hW := hW.keptA (sh := shS) hd (Nat.le_refl _) hq9
        have hle := Nat.le_trans hle hz9
        have hp1 : pB σS o1 (o1 + 1) [121, 59, 112, 48 + v4, 62, 48 + v7, 61, 48 + y] := hp9
        clear hc hp9 hf hAS hd hq9 hz9
        have hAS : ∀ q, rc_A shS Hq11.size q → rc_A sh s.heap.size q := fun q h => Or.inr (h.elim (fun h => Nat.le_trans hn0 (hlo q h)) (fun h => Nat.le_trans hS.1 h))
        have hB := rc_SB hT hE hS
        have hd : ∀ q, sh q ≠ 0 → shS q = 0 := fun q h => Classical.byContradiction (fun h2 => absurd (hMlt q h) (Nat.not_lt.mpr (hlo q h2)))
        refine rc_rcall (B := rc_pT Y shS rfS σS 15 (rc_gc (σS (rfS o1 0)) 8) Hq11.size) hS (fun q _ h => hAS q h) (fun q h => Or.inr (Nat.le_trans hS.1 h)) hAS (va_runV (As := []) (rest := [.ref a3]) ⟨hx, hb, hml, hown, hts⟩ (kn_J4_toString_0e30d_15 l hTS o1 ho1 Hq11.size σS hp1.1 (show σS o1 3 = (8 : Int32) from hp1.2.1) (by rw [hbo1]; exact pb_gc hp1 rfl)) (cwV 0 hts (rc_gV tw_5_41 tw_5_42 tw_5_43 tw_1_11 tw_5_44) rfl rfl rfl (by decide +kernel) ⟨Nat.le_of_ble_eq_true rfl, Nat.le_of_ble_eq_true rfl⟩) (rc_preVB hWS hK hE hB ho1 (by decide) rfl (q := (RJ4, TJ4, 4)) rfl []) rfl rfl hl.1 rfl (lv_room (Nat.le_of_ble_eq_true rfl)) dL_does_405 ⟨show 0 + 0 + 1 + 1 + 1 + 0 + 1 + 1 + 0 + 0 + 0 + 0 + 0 + 0 + 2 + 0 + 2 ≤ 18 from by omega, show 0 + 0 + 6 + 4 + 16 + 0 + 4 + 16 + 0 + 0 + 0 + 0 + 0 + 0 + 10 + 0 + 12 ≤ 122 from by omega⟩) (fun x1 Hq12 locs hBx hz9 hq9 hS => ?_)
        have hW := hW.keptA (sh := shS) hd (Nat.le_refl _) hq9
        rw [hbo1] at hBx
        obtain ⟨shS_o, e1_o⟩ : ∃ f, f = shS := ⟨_, rfl⟩
        have hTS_o := hTS
        have hWS_o := hWS
        rw [← e1_o] at hTS_o hWS_o
        obtain ⟨shS, rfS, σS, hTS, hWS, hx1s, hxl1, hxa1, htx, hx2, hlo2⟩ := rc_stX (n := 8) hTS hWS (Nat.le_trans hY0 hle) (by decide) hBx hp1 rfl
        rw [← e1_o] at hx2
        have hlo : ∀ q, shS q ≠ 0 → n0 ≤ q := fun q h => (hlo2 q h).elim (hlo q) (fun h => Nat.le_trans hle h)
        have hle := Nat.le_trans hle hz9
        clear hBx hz9 hq9 hAS hd hx2 hlo2
        have hAS : ∀ q, rc_A shS Hq12.size q → rc_A sh s.heap.size q := fun q h => Or.inr (h.elim (fun h => Nat.le_trans hn0 (hlo q h)) (fun h => Nat.le_trans hS.1 h))
        have hB := rc_SB hT hE hS
        have hd : ∀ q, sh q ≠ 0 → shS q = 0 := fun q h => Classical.byContradiction (fun h2 => absurd (hMlt q h) (Nat.not_lt.mpr (hlo q h2)))
        have htx : pTx σS x1 (rfS x1 0) (tx2 v4 v7 y) := htx
        refine rc_giA hS (fun q h => h.elim (fun h => Or.inr (Nat.le_trans hn0 (hlo q h))) (fun h => h.elim Or.inl (fun h => Or.inr (Nat.le_trans hS.1 h)))) (va_runS (As := [.ref a3, .ref x1]) (rest := []) ⟨hx, hb, hml, hown, hts⟩ (k_L_reads_15 l hl9 hT z a3 h3 hTS x1 hx1s hd (L := tx2 v4 v7 y) rfl htx Hq12.size _ _ _ hm) (va_cwS 2 hts (rc_gS tw_5_112 tw_5_113 tw_1_0 tw_5_114) rfl rfl rfl (by decide +kernel) ⟨Nat.le_of_ble_eq_true rfl, Nat.le_of_ble_eq_true rfl⟩) (rc_preSR hW hWS hK hE hN hXz hB [.ref a3, .ref x1]) rfl rfl hl.1 rfl (lv_room (Nat.le_of_ble_eq_true rfl)) dL_does_408 ⟨show 0 + 0 + 1 + 1 + 1 + 0 + 1 + 1 + 0 + 0 + 0 + 0 + 0 + 0 + 2 + 0 + 2 + 9 ≤ 18 from by omega, show 0 + 0 + 6 + 4 + 16 + 0 + 4 + 16 + 0 + 0 + 0 + 0 + 0 + 0 + 10 + 0 + 12 + 54 ≤ 122 from by omega⟩) (fun Hq13 locs hW hS => ?_)
        exact rc_eiret hx hb hr hlocks hW hS (by omega) (by omega) rfl dL_does_411
      · replace hm := rc_f hm c4_2
        refine lv_aload_n hx hb dL_does_265 rfl (lv_at hl 5 rfl) ?_
        refine rc_newR (C := RJ4) (T := TJ4) (N := 4) (ci := 1) (fs := [.null, .int 0, .int 0, .int 0]) hx hb hts in_11 tyJ4 tyJ4_ok hown (hts _ tw_4_135) (hts _ tw_2_50) (hts _ tw_1_11) hK rfl (fun j hj => by
          rcases (show j = 0 ∨ j = 1 ∨ j = 2 ∨ j = 3 by omega) with rfl | rfl | rfl | rfl <;> rfl) (show 0 + 0 + 1 + 1 ≤ 18 from by omega) (show 0 + 0 + 6 + 4 ≤ 122 from by omega) dL_does_266 (fun H1 hX z1 oe => ?_)
        have hS1 : va_S (rc_A sh s.heap.size) s.heap H1 locs := ⟨by rw [z1]; exact Nat.le_succ_of_le hS.1, fun q g1 g2 => (oe q (Nat.lt_of_lt_of_le g1 hS.1)).trans (hS.2.1 q g1 g2), hS.2.2⟩
        refine lv_dup hx hb dL_does_269 rfl ?_
        refine rc_gv (B := fun H2 => rc_V Y (rl_o rc_o0 H.size g_J4_init_da8c8) H2 ∧ H2.size = H.size + 2) hS1 (fun q h => Or.inr (Nat.le_trans hS.1 h)) (va_runI (As := []) (rest := [.ref H.size, .ref a3]) ⟨hx, hb, hml, hown, hts⟩ (kd_J4_init_da8c8 l rc_o0 H.size (Nat.le_trans hY0 hle)) (cwI 0 hts (rc_gI tw_2_53) rfl rfl rfl (hts _ tw_1_11) (hts _ tw_4_136) (hts _ tw_2_52) rfl (by decide +kernel) ⟨Nat.le_of_ble_eq_true rfl, Nat.le_of_ble_eq_true rfl⟩) (rl_pren (x0 := Y.1) (Nat.le_refl _) hK hE (rc_sb0 hX) z1 (rc_SB hT hE hS1) [.ref H.size]) rfl rfl hl.1 rfl (lv_room (Nat.le_of_ble_eq_true rfl)) dL_does_270 ⟨show 0 + 0 + 1 + 1 + 1 ≤ 18 from by omega, show 0 + 0 + 6 + 4 + 16 ≤ 122 from by omega⟩) (fun Hq1 locs hV2 _ hq2 hS => ?_)
        obtain ⟨hV2, z2⟩ := hV2
        have e2 : ∀ q : Nat, q < H.size → Hq1[q]? = H[q]? := fun q h => (hq2 q (by rw [z1]; omega) (Nat.not_le.mpr h)).trans (oe q h)
        obtain ⟨shS_o, e1_o⟩ : ∃ f, f = shS := ⟨_, rfl⟩
        have hTS_o := hTS
        have hWS_o := hWS
        rw [← e1_o] at hTS_o hWS_o
        obtain ⟨shS, rfS, σS, hTS, hWS, ho1, hbo1, hp1, hx2, hlo2⟩ := rc_sbX hTS hWS (Nat.le_trans hY0 hle) e2 hV2
        rw [← e1_o] at hx2
        have hW := hW.kept (fun q h => e2 q (hW.lt h))
        have hlo : ∀ q, shS q ≠ 0 → n0 ≤ q := fun q h => (hlo2 q h).elim (hlo q) (fun h => Nat.le_trans hle h)
        have hle2 : n0 ≤ Hq1.size := by rw [z2]; omega
        obtain ⟨o1, eo1⟩ : ∃ o, o = H.size := ⟨_, rfl⟩
        rw [← eo1] at ho1 hbo1 hp1 ⊢
        have hle := hle2
        clear hX z1 oe hS1 hV2 z2 e2 hq2 hx2 hlo2 hle2
        refine va_ldcS hx hb hown (rc_E_R hE 6 (by decide)) dL_does_273 ?_
        show W p l e _ s m _ below meth c Hq1 locs _ _ _ (F0 m 275 ls (.ref (Y.2.2.2 6) :: [.ref o1, .ref a3]))
        obtain ⟨σS, hc, hp9, hf⟩ := pb_con (rf := rfS) hbo1 (by omega) hp1 (r := 6) (ds := [121, 59]) (by simp) (by decide) pb_c6
        have hAS : ∀ q, rc_A shS Hq1.size q → rc_A sh s.heap.size q := fun q h => Or.inr (h.elim (fun h => Nat.le_trans hn0 (hlo q h)) (fun h => Nat.le_trans hS.1 h))
        have hB := rc_SB hT hE hS
        have hd : ∀ q, sh q ≠ 0 → shS q = 0 := fun q h => Classical.byContradiction (fun h2 => absurd (hMlt q h) (Nat.not_lt.mpr (hlo q h2)))
        refine rc_gr hS hAS (va_runV (As := [.ref (Y.2.2.2 6)]) (rest := [.ref a3]) ⟨hx, hb, hml, hown, hts⟩ (k_J4_append_15ec4_c l hTS o1 6 ho1 (by decide) Hq1.size _ _ _ hc) (cwV 1 hts (rc_gV tw_4_138 tw_4_139 tw_4_140 tw_1_11 tw_4_141) rfl rfl rfl (by decide +kernel) ⟨Nat.le_of_ble_eq_true rfl, Nat.le_of_ble_eq_true rfl⟩) (rc_preVB hWS hK hE hB ho1 (by decide) rfl (q := (RJ4, TJ4, 4)) rfl [.ref (Y.2.2.2 6)]) rfl rfl hl.1 rfl (lv_room (Nat.le_of_ble_eq_true rfl)) dL_does_275 ⟨show 0 + 0 + 1 + 1 + 1 + 0 ≤ 18 from by omega, show 0 + 0 + 6 + 4 + 16 + 0 ≤ 122 from by omega⟩) (fun Hq2 locs hWS hz9 hq9 hS => ?_)
        have hW := hW.keptA (sh := shS) hd (Nat.le_refl _) hq9
        have hle := Nat.le_trans hle hz9
        have hp1 : pB σS o1 (o1 + 1) [121, 59] := hp9
        clear hc hp9 hf hAS hd hq9 hz9
        refine lv_iload hx hb dL_does_278 (lv_at hl 1 rfl) ?_
        refine lv_iconst (v := 4) hx hb dL_does_280 (by decide) ?_
        refine lv_irem hx hb dL_does_281 (by decide) ?_
        refine lv_if_ne (tgt := 313) hx hb dL_does_282 (by decide) (fun _ => ?_) (fun c9 => absurd c9 c4_0)
        refine lv_iload hx hb dL_does_313 (lv_at hl 1 rfl) ?_
        refine lv_iconst (v := 4) hx hb dL_does_315 (by decide) ?_
        refine lv_irem hx hb dL_does_316 (by decide) ?_
        refine lv_iconst (v := 1) hx hb dL_does_317 (by decide) ?_
        refine lv_icmp_ne (tgt := 344) hx hb dL_does_318 (by decide) (fun _ => ?_) (fun c9 => absurd c9 c4_1)
        refine lv_iload hx hb dL_does_344 (lv_at hl 1 rfl) ?_
        refine lv_iconst (v := 4) hx hb dL_does_346 (by decide) ?_
        refine lv_irem hx hb dL_does_347 (by decide) ?_
        refine lv_iconst (v := 2) hx hb dL_does_348 (by decide) ?_
        refine lv_icmp_ne (tgt := 400) hx hb dL_does_349 (by decide) (fun _ => ?_) (fun c9 => absurd c9 c4_2)
        refine va_ldcS hx hb hown (rc_E_R hE 13 (by decide)) dL_does_400 ?_
        show W p l e _ s m _ below meth c Hq2 locs _ _ _ (F0 m 402 ls (.ref (Y.2.2.2 3) :: [.ref o1, .ref a3]))
        obtain ⟨σS, hc, hp9, hf⟩ := pb_con (rf := rfS) hbo1 (by omega) hp1 (r := 3) (ds := []) (by simp) (by decide) pb_c3
        have hAS : ∀ q, rc_A shS Hq2.size q → rc_A sh s.heap.size q := fun q h => Or.inr (h.elim (fun h => Nat.le_trans hn0 (hlo q h)) (fun h => Nat.le_trans hS.1 h))
        have hB := rc_SB hT hE hS
        have hd : ∀ q, sh q ≠ 0 → shS q = 0 := fun q h => Classical.byContradiction (fun h2 => absurd (hMlt q h) (Nat.not_lt.mpr (hlo q h2)))
        refine rc_gr hS hAS (va_runV (As := [.ref (Y.2.2.2 3)]) (rest := [.ref a3]) ⟨hx, hb, hml, hown, hts⟩ (k_J4_append_15ec4_c l hTS o1 3 ho1 (by decide) Hq2.size _ _ _ hc) (cwV 1 hts (rc_gV tw_4_138 tw_4_139 tw_4_140 tw_1_11 tw_4_141) rfl rfl rfl (by decide +kernel) ⟨Nat.le_of_ble_eq_true rfl, Nat.le_of_ble_eq_true rfl⟩) (rc_preVB hWS hK hE hB ho1 (by decide) rfl (q := (RJ4, TJ4, 4)) rfl [.ref (Y.2.2.2 3)]) rfl rfl hl.1 rfl (lv_room (Nat.le_of_ble_eq_true rfl)) dL_does_402 ⟨show 0 + 0 + 1 + 1 + 1 + 0 + 0 ≤ 18 from by omega, show 0 + 0 + 6 + 4 + 16 + 0 + 0 ≤ 122 from by omega⟩) (fun Hq3 locs hWS hz9 hq9 hS => ?_)
        have hW := hW.keptA (sh := shS) hd (Nat.le_refl _) hq9
        have hle := Nat.le_trans hle hz9
        have hp1 : pB σS o1 (o1 + 1) [121, 59] := hp9
        clear hc hp9 hf hAS hd hq9 hz9
        have hAS : ∀ q, rc_A shS Hq3.size q → rc_A sh s.heap.size q := fun q h => Or.inr (h.elim (fun h => Nat.le_trans hn0 (hlo q h)) (fun h => Nat.le_trans hS.1 h))
        have hB := rc_SB hT hE hS
        have hd : ∀ q, sh q ≠ 0 → shS q = 0 := fun q h => Classical.byContradiction (fun h2 => absurd (hMlt q h) (Nat.not_lt.mpr (hlo q h2)))
        refine rc_rcall (B := rc_pT Y shS rfS σS 12 (rc_gc (σS (rfS o1 0)) 2) Hq3.size) hS (fun q _ h => hAS q h) (fun q h => Or.inr (Nat.le_trans hS.1 h)) hAS (va_runV (As := []) (rest := [.ref a3]) ⟨hx, hb, hml, hown, hts⟩ (kn_J4_toString_0e30d_12 l hTS o1 ho1 Hq3.size σS hp1.1 (show σS o1 3 = (2 : Int32) from hp1.2.1) (by rw [hbo1]; exact pb_gc hp1 rfl)) (cwV 0 hts (rc_gV tw_5_41 tw_5_42 tw_5_43 tw_1_11 tw_5_44) rfl rfl rfl (by decide +kernel) ⟨Nat.le_of_ble_eq_true rfl, Nat.le_of_ble_eq_true rfl⟩) (rc_preVB hWS hK hE hB ho1 (by decide) rfl (q := (RJ4, TJ4, 4)) rfl []) rfl rfl hl.1 rfl (lv_room (Nat.le_of_ble_eq_true rfl)) dL_does_405 ⟨show 0 + 0 + 1 + 1 + 1 + 0 + 0 + 2 ≤ 18 from by omega, show 0 + 0 + 6 + 4 + 16 + 0 + 0 + 6 ≤ 122 from by omega⟩) (fun x1 Hq4 locs hBx hz9 hq9 hS => ?_)
        have hW := hW.keptA (sh := shS) hd (Nat.le_refl _) hq9
        rw [hbo1] at hBx
        obtain ⟨shS_o, e1_o⟩ : ∃ f, f = shS := ⟨_, rfl⟩
        have hTS_o := hTS
        have hWS_o := hWS
        rw [← e1_o] at hTS_o hWS_o
        obtain ⟨shS, rfS, σS, hTS, hWS, hx1s, hxl1, hxa1, htx, hx2, hlo2⟩ := rc_stX (n := 2) hTS hWS (Nat.le_trans hY0 hle) (by decide) hBx hp1 rfl
        rw [← e1_o] at hx2
        have hlo : ∀ q, shS q ≠ 0 → n0 ≤ q := fun q h => (hlo2 q h).elim (hlo q) (fun h => Nat.le_trans hle h)
        have hle := Nat.le_trans hle hz9
        clear hBx hz9 hq9 hAS hd hx2 hlo2
        have hAS : ∀ q, rc_A shS Hq4.size q → rc_A sh s.heap.size q := fun q h => Or.inr (h.elim (fun h => Nat.le_trans hn0 (hlo q h)) (fun h => Nat.le_trans hS.1 h))
        have hB := rc_SB hT hE hS
        have hd : ∀ q, sh q ≠ 0 → shS q = 0 := fun q h => Classical.byContradiction (fun h2 => absurd (hMlt q h) (Nat.not_lt.mpr (hlo q h2)))
        have htx : pTx σS x1 (rfS x1 0) (tx3) := htx
        refine rc_giA hS (fun q h => h.elim (fun h => Or.inr (Nat.le_trans hn0 (hlo q h))) (fun h => h.elim Or.inl (fun h => Or.inr (Nat.le_trans hS.1 h)))) (va_runS (As := [.ref a3, .ref x1]) (rest := []) ⟨hx, hb, hml, hown, hts⟩ (k_L_reads_12 l hl9 hT z a3 h3 hTS x1 hx1s hd (L := tx3) rfl htx Hq4.size _ _ _ hm) (va_cwS 2 hts (rc_gS tw_5_112 tw_5_113 tw_1_0 tw_5_114) rfl rfl rfl (by decide +kernel) ⟨Nat.le_of_ble_eq_true rfl, Nat.le_of_ble_eq_true rfl⟩) (rc_preSR hW hWS hK hE hN hXz hB [.ref a3, .ref x1]) rfl rfl hl.1 rfl (lv_room (Nat.le_of_ble_eq_true rfl)) dL_does_408 ⟨show 0 + 0 + 1 + 1 + 1 + 0 + 0 + 2 + 3 ≤ 18 from by omega, show 0 + 0 + 6 + 4 + 16 + 0 + 0 + 6 + 18 ≤ 122 from by omega⟩) (fun Hq5 locs hW hS => ?_)
        exact rc_eiret hx hb hr hlocks hW hS (by omega) (by omega) rfl dL_does_411
