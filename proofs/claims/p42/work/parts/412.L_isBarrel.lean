def f_L_isBarrel_241 (rf : rc_F) (z : rc_Z) (r0 : Nat) (v1 : Int32) (v3 : Int32) (v4 : Int32) (v5 : Int32) (v6 : Int32) (v7 : Int32) (v10 : Int32) (K : Int32 → Int32 → rc_S → Option (Int32 × rc_S)) : Nat → Int32 → Int32 → rc_S → Option (Int32 × rc_S)
  | 0, _, _, _ => none
  | n_241 + 1, v11, v12, σ =>
    rc_bd (f_L_account rf z r0 (3 : Int32) σ) fun w_15 σ_15 =>
    if w_15 ≤ v12 then
      K v11 v12 σ_15
    else
      rc_bd (f_L_notices rf z r0 v12 v1 σ_15) fun w_16 σ_16 =>
      rc_jn (fun (w_275_17 : Int32) (σ_18 : rc_S) =>
        rc_lt (v11 &&& w_275_17) fun v11_19 =>
        rc_lt (v12 + 1) fun v12_20 =>
        f_L_isBarrel_241 rf z r0 v1 v3 v4 v5 v6 v7 v10 K n_241 v11_19 v12_20 σ_18
      ) fun J_275 =>
      if w_16 = ((v7 >>> (v12 &&& 31)) &&& (1 : Int32)) then
        J_275 (1 : Int32) σ_16
      else
        J_275 (0 : Int32) σ_16
def f_L_isBarrel (rf : rc_F) (z : rc_Z) (a0 : Nat) (u1 : Int32) (u2 : Int32) (σ : rc_S) : Option (Int32 × rc_S) :=
  rc_bd (f_L_barrelOf rf z a0 u1 (1 : Int32) σ) fun w_1 σ_1 =>
  rc_bd (f_L_barrelOf rf z a0 u1 (2 : Int32) σ_1) fun w_2 σ_2 =>
  rc_bd (f_L_barrelOf rf z a0 u1 (6 : Int32) σ_2) fun w_3 σ_3 =>
  rc_bd (f_L_barrelOf rf z a0 u1 (5 : Int32) σ_3) fun w_4 σ_4 =>
  rc_bd (f_L_noticing rf z a0 u1 σ_4) fun w_5 σ_5 =>
  if w_1 = 0 then
    if w_2 = 0 then
      rc_bd (f_L_barrelOf rf z a0 u1 (3 : Int32) σ_5) fun w_61 σ_61 =>
      if w_61 = (-1 : Int32) then
        rc_bd (f_L_barrelOf rf z a0 u1 (4 : Int32) σ_61) fun w_62 σ_62 =>
        if w_62 = 0 then
          if w_4 = 0 then
            if w_3 = 0 then
              rc_bd (f_L_note rf z a0 u1 σ_62) fun w_63 σ_63 =>
              if w_63 = (-75 : Int32) then
                rc_bd (f_L_noteAgain rf z a0 u1 σ_63) fun w_64 σ_64 =>
                if w_64 = (-75 : Int32) then
                  if w_5 = 0 then
                    rc_bd (f_L_hidden rf z a0 u1 σ_64) fun w_65 σ_65 =>
                    if w_65 = (-75 : Int32) then
                      rc_bd (f_L_line rf z a0 u1 σ_65) fun w_66 σ_66 =>
                      if w_66 = (3 : Int32) then
                        some ((1 : Int32), σ_66)
                      else
                        some ((0 : Int32), σ_66)
                    else
                      some ((0 : Int32), σ_65)
                  else
                    some ((0 : Int32), σ_64)
                else
                  some ((0 : Int32), σ_64)
              else
                some ((0 : Int32), σ_63)
            else
              some ((0 : Int32), σ_62)
          else
            some ((0 : Int32), σ_62)
        else
          some ((0 : Int32), σ_62)
      else
        some ((0 : Int32), σ_61)
    else
      some ((0 : Int32), σ_5)
  else
    rc_bd (f_L_barrelOf rf z a0 u1 (4 : Int32) σ_5) fun w_6 σ_6 =>
    rc_lt (((if (w_6 + (w_4 / (2 : Int32))) < (9 : Int32) then (w_6 + (w_4 / (2 : Int32))) else (9 : Int32)) * ((100 : Int32) - w_3)) / (100 : Int32)) fun v8_7 =>
    rc_bd (f_L_barrelOf rf z a0 u1 (4 : Int32) σ_6) fun w_8 σ_8 =>
    rc_lt (((if (w_8 + ((w_4 + u2) / (2 : Int32))) < (9 : Int32) then (w_8 + ((w_4 + u2) / (2 : Int32))) else (9 : Int32)) * ((100 : Int32) - w_3)) / (100 : Int32)) fun v9_9 =>
    rc_bd (f_L_note rf z a0 u1 σ_8) fun w_10 σ_10 =>
    rc_jn (fun (w_219_11 : Int32) (σ_12 : rc_S) =>
      rc_jn (fun (w_236_13 : Int32) (σ_14 : rc_S) =>
        f_L_isBarrel_241 rf z a0 u1 w_1 w_2 w_3 w_4 w_5 w_219_11 (fun v11_23 v12_24 σ_25 =>
          rc_bd (f_L_hidden rf z a0 u1 σ_25) fun w_26 σ_26 =>
          rc_bd (f_L_account rf z a0 (2 : Int32) σ_26) fun w_27 σ_27 =>
          rc_lt (if w_27 < ((20 : Int32) - w_1) then w_27 else ((20 : Int32) - w_1)) fun v13_28 =>
          rc_bd (f_L_hiddenAgain rf z a0 u1 σ_27) fun w_29 σ_29 =>
          rc_jn (fun (w_362_30 : Int32) (σ_31 : rc_S) =>
            if (20 : Int32) < w_1 then
              some ((0 : Int32), σ_31)
            else
              if w_2 < 0 then
                some ((0 : Int32), σ_31)
              else
                if w_1 < w_2 then
                  some ((0 : Int32), σ_31)
                else
                  rc_ck (decide (¬ w_1 = 0)) <|
                  if w_3 = (((100 : Int32) * w_2) / w_1) then
                    if w_219_11 = 0 then
                      some ((0 : Int32), σ_31)
                    else
                      if v11_23 = 0 then
                        some ((0 : Int32), σ_31)
                      else
                        if w_362_30 = 0 then
                          some ((0 : Int32), σ_31)
                        else
                          rc_bd (f_L_barrelOf rf z a0 u1 (3 : Int32) σ_31) fun w_33 σ_33 =>
                          rc_bd (f_L_account rf z a0 (5 : Int32) σ_33) fun w_34 σ_34 =>
                          if w_34 ≤ w_33 then
                            some ((0 : Int32), σ_34)
                          else
                            if w_4 < 0 then
                              some ((0 : Int32), σ_34)
                            else
                              rc_bd (f_L_account rf z a0 (4 : Int32) σ_34) fun w_35 σ_35 =>
                              if w_35 < w_4 then
                                some ((0 : Int32), σ_35)
                              else
                                some ((1 : Int32), σ_35)
                  else
                    some ((0 : Int32), σ_31)
          ) fun J_362 =>
          if w_29 = w_26 then
            if w_5 = 0 then
              if w_26 < 0 then
                J_362 (0 : Int32) σ_29
              else
                if v13_28 < w_26 then
                  J_362 (0 : Int32) σ_29
                else
                  rc_bd (f_L_account rf z a0 (3 : Int32) σ_29) fun w_46 σ_46 =>
                  if 0 < w_46 then
                    J_362 (1 : Int32) σ_46
                  else
                    if w_26 = v13_28 then
                      J_362 (1 : Int32) σ_46
                    else
                      J_362 (0 : Int32) σ_46
            else
              if w_26 = (-75 : Int32) then
                J_362 (1 : Int32) σ_29
              else
                J_362 (0 : Int32) σ_29
          else
            J_362 (0 : Int32) σ_29
        ) 5 w_236_13 (0 : Int32) σ_14
      ) fun J_236 =>
      if 0 < w_3 then
        J_236 (1 : Int32) σ_12
      else
        if w_5 = 0 then
          J_236 (1 : Int32) σ_12
        else
          J_236 (0 : Int32) σ_12
    ) fun J_219 =>
    if w_10 = v8_7 then
      rc_bd (f_L_noteAgain rf z a0 u1 σ_10) fun w_56 σ_56 =>
      if w_56 = v8_7 then
        rc_bd (f_L_noteIn rf z a0 u1 u2 σ_56) fun w_57 σ_57 =>
        if w_57 = v9_9 then
          J_219 (1 : Int32) σ_57
        else
          J_219 (0 : Int32) σ_57
      else
        J_219 (0 : Int32) σ_56
    else
      J_219 (0 : Int32) σ_10
set_option maxHeartbeats 8000000 in
set_option maxRecDepth 100000 in
theorem k_L_isBarrel (l : Launch) (hl9 : l.stackTraces = false) {Y : rc_Y} {sh : Nat → Nat} {rf : rc_F} (hT : rc_T Y sh rf) (z : rc_Z) (a0 : Nat) (u1 : Int32) (u2 : Int32) (h0 : sh a0 = 9) (sz : Nat) (σ σ' : rc_S) (r : Int32) (hm : f_L_isBarrel rf z a0 u1 u2 σ = some (r, σ')) : Met l yL_isBarrel (Cond.code yL_isBarrel cL_isBarrel 15 (some .boolean) :: rc_big) ({ frames := 11, cells := 42, slots := 252, locals := 192 } : Room) (rc_PL Y sh rf σ sz z [.ref a0, .int u1, .int u2]) (va_Qi (fun (r' : Int32) (_ : Unit) => r' = r) (fun _ t => rc_W Y sh rf σ' t.heap) (rc_A sh sz)) 42 252 (rc_A sh sz) := by
  refine Met.ofW (cc := cL_isBarrel) (maxL := 15) (ret := (some .boolean)) (by decide +kernel) rfl ?_
  intro p e s m args below meth c s₁ B hml hv
  obtain ⟨rfl, hsz, ⟨hW, hK, hE⟩, hN, hXz⟩ := hv
  have hx := B.exec
  have hb := B.bytes
  have hr := B.returns
  have hts : ∀ w ∈ rc_big, w.before _ s = true := fun w h => atoms_spec (ws := Cond.code yL_isBarrel cL_isBarrel 15 (some .boolean) :: rc_big) B.pre w (List.mem_cons_of_mem _ h)
  have hown : s.vm.findClass RL = some m.cls := findClass_of_methodNamed B.named
  have hlocks := B.notSynchronized
  clear B
  subst hsz
  have hS : va_S (rc_A sh s.heap.size) s.heap s.heap [] := va_S.rf
  have hl := lv_entry ([.ref a0, .int u1, .int u2]) (n := 15) (Nat.le_of_ble_eq_true rfl)
  rw [lg_entry_eq]
  generalize (lg_sl ([.ref a0, .int u1, .int u2]) ++ List.replicate (15 - (lg_sl ([.ref a0, .int u1, .int u2])).length) Slot.unset).toArray = ls at hl ⊢
  have hl : lv_has ls 15 [(0, .ref a0), (1, .int u1), (2, .int u2)] := hl
  have lp_241 : ∀ (r0 : Nat) (v1 : Int32) (v3 : Int32) (v4 : Int32) (v5 : Int32) (v6 : Int32) (v7 : Int32) (v10 : Int32) (hr0 : sh r0 = 9) (C0 S0 : Nat) (hC0 : C0 ≤ 20) (hS0 : S0 ≤ 120) (K : Int32 → Int32 → rc_S → Option (Int32 × rc_S)) (hKK : ∀ (v11 : Int32) (v12 : Int32) (σ : rc_S) (H : Heap) (locs : List Loc) (ls : Array Slot), K v11 v12 σ = some (r, σ') → rc_W Y sh rf σ H → va_S (rc_A sh s.heap.size) s.heap H locs → lv_has ls 15 [(0, .ref r0), (1, .int v1), (3, .int v3), (4, .int v4), (5, .int v5), (6, .int v6), (7, .int v7), (10, .int v10), (11, .int v11)] → W p l e (headSpec (Cond.code yL_isBarrel cL_isBarrel 15 (some .boolean) :: rc_big) ({ frames := 11, cells := 42, slots := 252, locals := 192 } : Room)).room s m (([.ref a0, .int u1, .int u2] : List Value).toArray) below meth c H locs (C0 + 10) (S0 + 60) (MQ below (va_Qi (fun (r' : Int32) (_ : Unit) => r' = r) (fun _ t => rc_W Y sh rf σ' t.heap) (rc_A sh s.heap.size)) ([.ref a0, .int u1, .int u2] : List Value).toArray s 42 252 (rc_A sh s.heap.size)) (F0 m 284 ls [])) (n : Nat) (hn : n ≤ 5) (v11 : Int32) (v12 : Int32) (σ : rc_S) (H : Heap) (locs : List Loc) (ls : Array Slot), f_L_isBarrel_241 rf z r0 v1 v3 v4 v5 v6 v7 v10 K n v11 v12 σ = some (r, σ') → rc_W Y sh rf σ H → va_S (rc_A sh s.heap.size) s.heap H locs → lv_has ls 15 [(0, .ref r0), (1, .int v1), (3, .int v3), (4, .int v4), (5, .int v5), (6, .int v6), (7, .int v7), (10, .int v10), (11, .int v11), (12, .int v12)] → W p l e (headSpec (Cond.code yL_isBarrel cL_isBarrel 15 (some .boolean) :: rc_big) ({ frames := 11, cells := 42, slots := 252, locals := 192 } : Room)).room s m (([.ref a0, .int u1, .int u2] : List Value).toArray) below meth c H locs (C0 + (5 - n) * 2) (S0 + (5 - n) * 12) (MQ below (va_Qi (fun (r' : Int32) (_ : Unit) => r' = r) (fun _ t => rc_W Y sh rf σ' t.heap) (rc_A sh s.heap.size)) ([.ref a0, .int u1, .int u2] : List Value).toArray s 42 252 (rc_A sh s.heap.size)) (F0 m 241 ls []) := by
    intro r0 v1 v3 v4 v5 v6 v7 v10 hr0 C0 S0 hC0 hS0 K hKK n
    induction n with
    | zero =>
      intro hn v11 v12 σ H locs ls hm
      rw [f_L_isBarrel_241] at hm
      cases hm
    | succ n_241 ih =>
      intro hn v11 v12 σ H locs ls hm hW hS hl
      rw [f_L_isBarrel_241] at hm
      refine lv_iload hx hb dL_isBarrel_241 (lv_at hl 9 rfl) ?_
      refine lv_aload_n hx hb dL_isBarrel_243 rfl (lv_at hl 0 rfl) ?_
      refine lv_iconst (v := 3) hx hb dL_isBarrel_244 (by decide) ?_
      obtain ⟨w_15, σ_15, hc_15, hm0⟩ := rc_bd_inv hm
      clear hm
      refine rc_ci hS (vx_runSW (As := [.ref r0, .int (3 : Int32)]) (rest := [.int v12]) ⟨hx, hb, hml, hown, hts⟩ (k_L_account l hl9 hT z r0 (3 : Int32) hr0 H.size _ _ _ hc_15) (vx_cwSW 2 hts (rc_gS tw_3_118 tw_3_119 tw_1_0 tw_3_120) rfl rfl rfl (by decide +kernel) ⟨Nat.le_of_ble_eq_true rfl, Nat.le_of_ble_eq_true rfl⟩) (rc_preSL hT hW hK hE hN hXz hS [.ref r0, .int (3 : Int32)]) rfl rfl hl.1 rfl (lv_room (Nat.le_of_ble_eq_true rfl)) dL_isBarrel_245 ⟨show C0 + (5 - (n_241 + 1)) * 2 + 1 ≤ 42 from by omega, show S0 + (5 - (n_241 + 1)) * 12 + 6 ≤ 252 from by omega⟩) (fun H locs hW hS => ?_)
      have hm := hm0
      clear hm0 hc_15
      refine lv_icmp_ge (tgt := 284) hx hb dL_isBarrel_248 (by decide) (fun c_22 => ?_) (fun c_22 => ?_)
      · replace hm := rc_t hm c_22
        refine W.widen (k := C0 + 10) (n := S0 + 60) (by omega) (by omega) ?_
        exact hKK v11 v12 σ_15 _ _ _ hm hW hS (lv_sub hl [0, 1, 2, 3, 4, 5, 6, 7, 8] rfl)
      · replace hm := rc_f hm c_22
        refine lv_iload hx hb dL_isBarrel_251 (lv_at hl 8 rfl) ?_
        refine lv_aload_n hx hb dL_isBarrel_253 rfl (lv_at hl 0 rfl) ?_
        refine lv_iload hx hb dL_isBarrel_254 (lv_at hl 9 rfl) ?_
        refine lv_iload_n hx hb dL_isBarrel_256 rfl (lv_at hl 1 rfl) ?_
        obtain ⟨w_16, σ_16, hc_16, hm0⟩ := rc_bd_inv hm
        clear hm
        refine rc_ci hS (vx_runSW (As := [.ref r0, .int v12, .int v1]) (rest := [.int v11]) ⟨hx, hb, hml, hown, hts⟩ (k_L_notices l hl9 hT z r0 v12 v1 hr0 H.size _ _ _ hc_16) (vx_cwSW 3 hts (rc_gS tw_6_191 tw_6_192 tw_1_0 tw_6_193) rfl rfl rfl (by decide +kernel) ⟨Nat.le_of_ble_eq_true rfl, Nat.le_of_ble_eq_true rfl⟩) (rc_preSL hT hW hK hE hN hXz hS [.ref r0, .int v12, .int v1]) rfl rfl hl.1 rfl (lv_room (Nat.le_of_ble_eq_true rfl)) dL_isBarrel_257 ⟨show C0 + (5 - (n_241 + 1)) * 2 + 1 + 1 ≤ 42 from by omega, show S0 + (5 - (n_241 + 1)) * 12 + 6 + 6 ≤ 252 from by omega⟩) (fun H locs hW hS => ?_)
        have hm := hm0
        clear hm0 hc_16
        refine lv_iload hx hb dL_isBarrel_260 (lv_at hl 6 rfl) ?_
        refine lv_iload hx hb dL_isBarrel_262 (lv_at hl 9 rfl) ?_
        refine lv_ishr hx hb dL_isBarrel_264 ?_
        refine lv_iconst (v := 1) hx hb dL_isBarrel_265 (by decide) ?_
        refine lv_iand hx hb dL_isBarrel_266 ?_
        refine rc_jn_el hm (fun J => ∀ (w_275_17 : Int32) (σ_18 : rc_S) (H : Heap) (locs : List Loc) (ls : Array Slot), J w_275_17 σ_18 = some (r, σ') → rc_W Y sh rf σ_18 H → va_S (rc_A sh s.heap.size) s.heap H locs → lv_has ls 15 [(0, .ref r0), (1, .int v1), (3, .int v3), (4, .int v4), (5, .int v5), (6, .int v6), (7, .int v7), (10, .int v10), (12, .int v12)] → W p l e (headSpec (Cond.code yL_isBarrel cL_isBarrel 15 (some .boolean) :: rc_big) ({ frames := 11, cells := 42, slots := 252, locals := 192 } : Room)).room s m (([.ref a0, .int u1, .int u2] : List Value).toArray) below meth c H locs (C0 + (5 - (n_241 + 1)) * 2 + 1 + 1) (S0 + (5 - (n_241 + 1)) * 12 + 6 + 6) (MQ below (va_Qi (fun (r' : Int32) (_ : Unit) => r' = r) (fun _ t => rc_W Y sh rf σ' t.heap) (rc_A sh s.heap.size)) ([.ref a0, .int u1, .int u2] : List Value).toArray s 42 252 (rc_A sh s.heap.size)) (F0 m 275 ls [.int w_275_17, .int v11])) ?_ (fun J_275 hJ_275 hm => ?_)
        · intro w_275_17 σ_18 H locs ls hm hW hS hl
          refine lv_iand hx hb dL_isBarrel_275 ?_
          refine lv_topi (fun v11_19 ev => ?_)
          replace hm := rc_lt_at hm ev
          clear ev
          refine lv_istore (lv' := [(11, .int v11_19), (0, .ref r0), (1, .int v1), (3, .int v3), (4, .int v4), (5, .int v5), (6, .int v6), (7, .int v7), (10, .int v10), (12, .int v12)]) hx hb dL_isBarrel_276 hl (by decide) rfl (fun ls hl => ?_)
          obtain ⟨v12_20, ev⟩ : ∃ y : Int32, y = (v12 + 1) := ⟨_, rfl⟩
          replace hm := rc_lt_at hm ev
          refine lv_iinc (v := v12_20) (lv' := [(12, .int v12_20), (11, .int v11_19), (0, .ref r0), (1, .int v1), (3, .int v3), (4, .int v4), (5, .int v5), (6, .int v6), (7, .int v7), (10, .int v10)]) hx hb dL_isBarrel_278 hl (k := 9) rfl (by rw [ev]; rfl) (by decide) rfl (fun ls hl => ?_)
          clear ev
          refine lv_goto (tgt := 241) hx hb dL_isBarrel_281 (by decide) ?_
          refine W.widen (k := C0 + (5 - n_241) * 2) (n := S0 + (5 - n_241) * 12) (by omega) (by omega) ?_
          exact ih (by omega) v11_19 v12_20 σ_18 _ _ _ hm hW hS (lv_sub hl [2, 3, 4, 5, 6, 7, 8, 9, 1, 0] rfl)
        refine lv_icmp_ne (tgt := 274) hx hb dL_isBarrel_267 (by decide) (fun c_21 => ?_) (fun c_21 => ?_)
        · replace hm := rc_f hm c_21
          refine lv_iconst (v := 0) hx hb dL_isBarrel_274 (by decide) ?_
          refine W.widen (k := C0 + (5 - (n_241 + 1)) * 2 + 1 + 1) (n := S0 + (5 - (n_241 + 1)) * 12 + 6 + 6) (by omega) (by omega) ?_
          exact hJ_275 (0 : Int32) σ_16 _ _ _ hm hW hS (lv_sub hl [0, 1, 2, 3, 4, 5, 6, 7, 9] rfl)
        · replace hm := rc_t hm c_21
          refine lv_iconst (v := 1) hx hb dL_isBarrel_270 (by decide) ?_
          refine lv_goto (tgt := 275) hx hb dL_isBarrel_271 (by decide) ?_
          refine W.widen (k := C0 + (5 - (n_241 + 1)) * 2 + 1 + 1) (n := S0 + (5 - (n_241 + 1)) * 12 + 6 + 6) (by omega) (by omega) ?_
          exact hJ_275 (1 : Int32) σ_16 _ _ _ hm hW hS (lv_sub hl [0, 1, 2, 3, 4, 5, 6, 7, 9] rfl)
  unfold f_L_isBarrel at hm
  refine lv_aload_n hx hb dL_isBarrel_0 rfl (lv_at hl 0 rfl) ?_
  refine lv_iload_n hx hb dL_isBarrel_1 rfl (lv_at hl 1 rfl) ?_
  refine lv_iconst (v := 1) hx hb dL_isBarrel_2 (by decide) ?_
  obtain ⟨w_1, σ_1, hc_1, hm0⟩ := rc_bd_inv hm
  clear hm
  refine rc_ci hS (vx_runSW (As := [.ref a0, .int u1, .int (1 : Int32)]) (rest := []) ⟨hx, hb, hml, hown, hts⟩ (k_L_barrelOf l hl9 hT z a0 u1 (1 : Int32) h0 s.heap.size _ _ _ hc_1) (vx_cwSW 3 hts (rc_gS tw_6_45 tw_6_46 tw_1_0 tw_6_47) rfl rfl rfl (by decide +kernel) ⟨Nat.le_of_ble_eq_true rfl, Nat.le_of_ble_eq_true rfl⟩) (rc_preSL hT hW hK hE hN hXz hS [.ref a0, .int u1, .int (1 : Int32)]) rfl rfl hl.1 rfl (lv_room (Nat.le_of_ble_eq_true rfl)) dL_isBarrel_3 ⟨show 0 + 2 ≤ 42 from by omega, show 0 + 12 ≤ 252 from by omega⟩) (fun H locs hW hS => ?_)
  have hm := hm0
  clear hm0 hc_1
  refine lv_istore_n (lv' := [(3, .int w_1), (0, .ref a0), (1, .int u1), (2, .int u2)]) hx hb dL_isBarrel_6 rfl hl (by decide) rfl (fun ls hl => ?_)
  refine lv_aload_n hx hb dL_isBarrel_7 rfl (lv_at hl 1 rfl) ?_
  refine lv_iload_n hx hb dL_isBarrel_8 rfl (lv_at hl 2 rfl) ?_
  refine lv_iconst (v := 2) hx hb dL_isBarrel_9 (by decide) ?_
  obtain ⟨w_2, σ_2, hc_2, hm0⟩ := rc_bd_inv hm
  clear hm
  refine rc_ci hS (vx_runSW (As := [.ref a0, .int u1, .int (2 : Int32)]) (rest := []) ⟨hx, hb, hml, hown, hts⟩ (k_L_barrelOf l hl9 hT z a0 u1 (2 : Int32) h0 H.size _ _ _ hc_2) (vx_cwSW 3 hts (rc_gS tw_6_45 tw_6_46 tw_1_0 tw_6_47) rfl rfl rfl (by decide +kernel) ⟨Nat.le_of_ble_eq_true rfl, Nat.le_of_ble_eq_true rfl⟩) (rc_preSL hT hW hK hE hN hXz hS [.ref a0, .int u1, .int (2 : Int32)]) rfl rfl hl.1 rfl (lv_room (Nat.le_of_ble_eq_true rfl)) dL_isBarrel_10 ⟨show 0 + 2 + 2 ≤ 42 from by omega, show 0 + 12 + 12 ≤ 252 from by omega⟩) (fun H locs hW hS => ?_)
  have hm := hm0
  clear hm0 hc_2
  refine lv_istore (lv' := [(4, .int w_2), (3, .int w_1), (0, .ref a0), (1, .int u1), (2, .int u2)]) hx hb dL_isBarrel_13 hl (by decide) rfl (fun ls hl => ?_)
  refine lv_aload_n hx hb dL_isBarrel_15 rfl (lv_at hl 2 rfl) ?_
  refine lv_iload_n hx hb dL_isBarrel_16 rfl (lv_at hl 3 rfl) ?_
  refine lv_bipush (v := 6) hx hb dL_isBarrel_17 (by decide) ?_
  obtain ⟨w_3, σ_3, hc_3, hm0⟩ := rc_bd_inv hm
  clear hm
  refine rc_ci hS (vx_runSW (As := [.ref a0, .int u1, .int (6 : Int32)]) (rest := []) ⟨hx, hb, hml, hown, hts⟩ (k_L_barrelOf l hl9 hT z a0 u1 (6 : Int32) h0 H.size _ _ _ hc_3) (vx_cwSW 3 hts (rc_gS tw_6_45 tw_6_46 tw_1_0 tw_6_47) rfl rfl rfl (by decide +kernel) ⟨Nat.le_of_ble_eq_true rfl, Nat.le_of_ble_eq_true rfl⟩) (rc_preSL hT hW hK hE hN hXz hS [.ref a0, .int u1, .int (6 : Int32)]) rfl rfl hl.1 rfl (lv_room (Nat.le_of_ble_eq_true rfl)) dL_isBarrel_19 ⟨show 0 + 2 + 2 + 2 ≤ 42 from by omega, show 0 + 12 + 12 + 12 ≤ 252 from by omega⟩) (fun H locs hW hS => ?_)
  have hm := hm0
  clear hm0 hc_3
  refine lv_istore (lv' := [(5, .int w_3), (4, .int w_2), (3, .int w_1), (0, .ref a0), (1, .int u1), (2, .int u2)]) hx hb dL_isBarrel_22 hl (by decide) rfl (fun ls hl => ?_)
  refine lv_aload_n hx hb dL_isBarrel_24 rfl (lv_at hl 3 rfl) ?_
  refine lv_iload_n hx hb dL_isBarrel_25 rfl (lv_at hl 4 rfl) ?_
  refine lv_iconst (v := 5) hx hb dL_isBarrel_26 (by decide) ?_
  obtain ⟨w_4, σ_4, hc_4, hm0⟩ := rc_bd_inv hm
  clear hm
  refine rc_ci hS (vx_runSW (As := [.ref a0, .int u1, .int (5 : Int32)]) (rest := []) ⟨hx, hb, hml, hown, hts⟩ (k_L_barrelOf l hl9 hT z a0 u1 (5 : Int32) h0 H.size _ _ _ hc_4) (vx_cwSW 3 hts (rc_gS tw_6_45 tw_6_46 tw_1_0 tw_6_47) rfl rfl rfl (by decide +kernel) ⟨Nat.le_of_ble_eq_true rfl, Nat.le_of_ble_eq_true rfl⟩) (rc_preSL hT hW hK hE hN hXz hS [.ref a0, .int u1, .int (5 : Int32)]) rfl rfl hl.1 rfl (lv_room (Nat.le_of_ble_eq_true rfl)) dL_isBarrel_27 ⟨show 0 + 2 + 2 + 2 + 2 ≤ 42 from by omega, show 0 + 12 + 12 + 12 + 12 ≤ 252 from by omega⟩) (fun H locs hW hS => ?_)
  have hm := hm0
  clear hm0 hc_4
  refine lv_istore (lv' := [(6, .int w_4), (5, .int w_3), (4, .int w_2), (3, .int w_1), (0, .ref a0), (1, .int u1), (2, .int u2)]) hx hb dL_isBarrel_30 hl (by decide) rfl (fun ls hl => ?_)
  refine lv_aload_n hx hb dL_isBarrel_32 rfl (lv_at hl 4 rfl) ?_
  refine lv_iload_n hx hb dL_isBarrel_33 rfl (lv_at hl 5 rfl) ?_
  obtain ⟨w_5, σ_5, hc_5, hm0⟩ := rc_bd_inv hm
  clear hm
  refine rc_ci hS (vx_runSW (As := [.ref a0, .int u1]) (rest := []) ⟨hx, hb, hml, hown, hts⟩ (k_L_noticing l hl9 hT z a0 u1 h0 H.size _ _ _ hc_5) (vx_cwSW 2 hts (rc_gS tw_3_45 tw_3_46 tw_1_0 tw_3_47) rfl rfl rfl (by decide +kernel) ⟨Nat.le_of_ble_eq_true rfl, Nat.le_of_ble_eq_true rfl⟩) (rc_preSL hT hW hK hE hN hXz hS [.ref a0, .int u1]) rfl rfl hl.1 rfl (lv_room (Nat.le_of_ble_eq_true rfl)) dL_isBarrel_34 ⟨show 0 + 2 + 2 + 2 + 2 + 1 ≤ 42 from by omega, show 0 + 12 + 12 + 12 + 12 + 6 ≤ 252 from by omega⟩) (fun H locs hW hS => ?_)
  have hm := hm0
  clear hm0 hc_5
  refine lv_istore (lv' := [(7, .int w_5), (6, .int w_4), (5, .int w_3), (4, .int w_2), (3, .int w_1), (0, .ref a0), (1, .int u1), (2, .int u2)]) hx hb dL_isBarrel_37 hl (by decide) rfl (fun ls hl => ?_)
  refine lv_iload_n hx hb dL_isBarrel_39 rfl (lv_at hl 4 rfl) ?_
  refine lv_if_ne (tgt := 127) hx hb dL_isBarrel_40 (by decide) (fun c_77 => ?_) (fun c_77 => ?_)
  · replace hm := rc_f hm c_77
    refine lv_bipush (v := 9) hx hb dL_isBarrel_127 (by decide) ?_
    refine lv_aload_n hx hb dL_isBarrel_129 rfl (lv_at hl 5 rfl) ?_
    refine lv_iload_n hx hb dL_isBarrel_130 rfl (lv_at hl 6 rfl) ?_
    refine lv_iconst (v := 4) hx hb dL_isBarrel_131 (by decide) ?_
    obtain ⟨w_6, σ_6, hc_6, hm0⟩ := rc_bd_inv hm
    clear hm
    refine rc_ci hS (vx_runSW (As := [.ref a0, .int u1, .int (4 : Int32)]) (rest := [.int (9 : Int32)]) ⟨hx, hb, hml, hown, hts⟩ (k_L_barrelOf l hl9 hT z a0 u1 (4 : Int32) h0 H.size _ _ _ hc_6) (vx_cwSW 3 hts (rc_gS tw_6_45 tw_6_46 tw_1_0 tw_6_47) rfl rfl rfl (by decide +kernel) ⟨Nat.le_of_ble_eq_true rfl, Nat.le_of_ble_eq_true rfl⟩) (rc_preSL hT hW hK hE hN hXz hS [.ref a0, .int u1, .int (4 : Int32)]) rfl rfl hl.1 rfl (lv_room (Nat.le_of_ble_eq_true rfl)) dL_isBarrel_132 ⟨show 0 + 2 + 2 + 2 + 2 + 1 + 2 ≤ 42 from by omega, show 0 + 12 + 12 + 12 + 12 + 6 + 12 ≤ 252 from by omega⟩) (fun H locs hW hS => ?_)
    have hm := hm0
    clear hm0 hc_6
    refine lv_iload hx hb dL_isBarrel_135 (lv_at hl 1 rfl) ?_
    refine lv_iconst (v := 2) hx hb dL_isBarrel_137 (by decide) ?_
    refine lv_idiv hx hb dL_isBarrel_138 (by decide) ?_
    refine lv_iadd hx hb dL_isBarrel_139 ?_
    refine va_mmin hx hb (hml.trans hl.1.symm) hown (hts _ tw_6_182) (hts _ tw_3_31) (hts _ tw_1_22) (hts _ tw_3_32) (Nat.le_of_ble_eq_true rfl) (Nat.le_of_ble_eq_true rfl) (show 0 + 2 + 2 + 2 + 2 + 1 + 2 ≤ 42 from by omega) (show 0 + 12 + 12 + 12 + 12 + 6 + 12 ≤ 252 from by omega) dL_isBarrel_140 ?_
    refine lv_bipush (v := 100) hx hb dL_isBarrel_143 (by decide) ?_
    refine lv_iload hx hb dL_isBarrel_145 (lv_at hl 2 rfl) ?_
    refine lv_isub hx hb dL_isBarrel_147 ?_
    refine lv_imul hx hb dL_isBarrel_148 ?_
    refine lv_bipush (v := 100) hx hb dL_isBarrel_149 (by decide) ?_
    refine lv_idiv hx hb dL_isBarrel_151 (by decide) ?_
    refine lv_topi (fun v8_7 ev => ?_)
    replace hm := rc_lt_at hm ev
    clear ev
    refine lv_istore (lv' := [(8, .int v8_7), (7, .int w_5), (6, .int w_4), (5, .int w_3), (4, .int w_2), (3, .int w_1), (0, .ref a0), (1, .int u1), (2, .int u2)]) hx hb dL_isBarrel_152 hl (by decide) rfl (fun ls hl => ?_)
    refine lv_bipush (v := 9) hx hb dL_isBarrel_154 (by decide) ?_
    refine lv_aload_n hx hb dL_isBarrel_156 rfl (lv_at hl 6 rfl) ?_
    refine lv_iload_n hx hb dL_isBarrel_157 rfl (lv_at hl 7 rfl) ?_
    refine lv_iconst (v := 4) hx hb dL_isBarrel_158 (by decide) ?_
    obtain ⟨w_8, σ_8, hc_8, hm0⟩ := rc_bd_inv hm
    clear hm
    refine rc_ci hS (vx_runSW (As := [.ref a0, .int u1, .int (4 : Int32)]) (rest := [.int (9 : Int32)]) ⟨hx, hb, hml, hown, hts⟩ (k_L_barrelOf l hl9 hT z a0 u1 (4 : Int32) h0 H.size _ _ _ hc_8) (vx_cwSW 3 hts (rc_gS tw_6_45 tw_6_46 tw_1_0 tw_6_47) rfl rfl rfl (by decide +kernel) ⟨Nat.le_of_ble_eq_true rfl, Nat.le_of_ble_eq_true rfl⟩) (rc_preSL hT hW hK hE hN hXz hS [.ref a0, .int u1, .int (4 : Int32)]) rfl rfl hl.1 rfl (lv_room (Nat.le_of_ble_eq_true rfl)) dL_isBarrel_159 ⟨show 0 + 2 + 2 + 2 + 2 + 1 + 2 + 2 ≤ 42 from by omega, show 0 + 12 + 12 + 12 + 12 + 6 + 12 + 12 ≤ 252 from by omega⟩) (fun H locs hW hS => ?_)
    have hm := hm0
    clear hm0 hc_8
    refine lv_iload hx hb dL_isBarrel_162 (lv_at hl 2 rfl) ?_
    refine lv_iload_n hx hb dL_isBarrel_164 rfl (lv_at hl 8 rfl) ?_
    refine lv_iadd hx hb dL_isBarrel_165 ?_
    refine lv_iconst (v := 2) hx hb dL_isBarrel_166 (by decide) ?_
    refine lv_idiv hx hb dL_isBarrel_167 (by decide) ?_
    refine lv_iadd hx hb dL_isBarrel_168 ?_
    refine va_mmin hx hb (hml.trans hl.1.symm) hown (hts _ tw_6_182) (hts _ tw_3_31) (hts _ tw_1_22) (hts _ tw_3_32) (Nat.le_of_ble_eq_true rfl) (Nat.le_of_ble_eq_true rfl) (show 0 + 2 + 2 + 2 + 2 + 1 + 2 + 2 ≤ 42 from by omega) (show 0 + 12 + 12 + 12 + 12 + 6 + 12 + 12 ≤ 252 from by omega) dL_isBarrel_169 ?_
    refine lv_bipush (v := 100) hx hb dL_isBarrel_172 (by decide) ?_
    refine lv_iload hx hb dL_isBarrel_174 (lv_at hl 3 rfl) ?_
    refine lv_isub hx hb dL_isBarrel_176 ?_
    refine lv_imul hx hb dL_isBarrel_177 ?_
    refine lv_bipush (v := 100) hx hb dL_isBarrel_178 (by decide) ?_
    refine lv_idiv hx hb dL_isBarrel_180 (by decide) ?_
    refine lv_topi (fun v9_9 ev => ?_)
    replace hm := rc_lt_at hm ev
    clear ev
    refine lv_istore (lv' := [(9, .int v9_9), (8, .int v8_7), (7, .int w_5), (6, .int w_4), (5, .int w_3), (4, .int w_2), (3, .int w_1), (0, .ref a0), (1, .int u1), (2, .int u2)]) hx hb dL_isBarrel_181 hl (by decide) rfl (fun ls hl => ?_)
    refine lv_aload_n hx hb dL_isBarrel_183 rfl (lv_at hl 7 rfl) ?_
    refine lv_iload_n hx hb dL_isBarrel_184 rfl (lv_at hl 8 rfl) ?_
    obtain ⟨w_10, σ_10, hc_10, hm0⟩ := rc_bd_inv hm
    clear hm
    refine rc_ci hS (vx_runSW (As := [.ref a0, .int u1]) (rest := []) ⟨hx, hb, hml, hown, hts⟩ (k_L_note l hl9 hT z a0 u1 h0 H.size _ _ _ hc_10) (vx_cwSW 2 hts (rc_gS tw_2_117 tw_2_118 tw_1_0 tw_2_119) rfl rfl rfl (by decide +kernel) ⟨Nat.le_of_ble_eq_true rfl, Nat.le_of_ble_eq_true rfl⟩) (rc_preSL hT hW hK hE hN hXz hS [.ref a0, .int u1]) rfl rfl hl.1 rfl (lv_room (Nat.le_of_ble_eq_true rfl)) dL_isBarrel_185 ⟨show 0 + 2 + 2 + 2 + 2 + 1 + 2 + 2 + 2 ≤ 42 from by omega, show 0 + 12 + 12 + 12 + 12 + 6 + 12 + 12 + 12 ≤ 252 from by omega⟩) (fun H locs hW hS => ?_)
    have hm := hm0
    clear hm0 hc_10
    refine lv_iload hx hb dL_isBarrel_188 (lv_at hl 1 rfl) ?_
    refine rc_jn_el hm (fun J => ∀ (w_219_11 : Int32) (σ_12 : rc_S) (H : Heap) (locs : List Loc) (ls : Array Slot), J w_219_11 σ_12 = some (r, σ') → rc_W Y sh rf σ_12 H → va_S (rc_A sh s.heap.size) s.heap H locs → lv_has ls 15 [(7, .int w_5), (6, .int w_4), (5, .int w_3), (4, .int w_2), (3, .int w_1), (0, .ref a0), (1, .int u1)] → W p l e (headSpec (Cond.code yL_isBarrel cL_isBarrel 15 (some .boolean) :: rc_big) ({ frames := 11, cells := 42, slots := 252, locals := 192 } : Room)).room s m (([.ref a0, .int u1, .int u2] : List Value).toArray) below meth c H locs (0 + 2 + 2 + 2 + 2 + 1 + 2 + 2 + 2 + 5) (0 + 12 + 12 + 12 + 12 + 6 + 12 + 12 + 12 + 30) (MQ below (va_Qi (fun (r' : Int32) (_ : Unit) => r' = r) (fun _ t => rc_W Y sh rf σ' t.heap) (rc_A sh s.heap.size)) ([.ref a0, .int u1, .int u2] : List Value).toArray s 42 252 (rc_A sh s.heap.size)) (F0 m 219 ls [.int w_219_11])) ?_ (fun J_219 hJ_219 hm => ?_)
    · intro w_219_11 σ_12 H locs ls hm hW hS hl
      refine lv_istore (lv' := [(10, .int w_219_11), (7, .int w_5), (6, .int w_4), (5, .int w_3), (4, .int w_2), (3, .int w_1), (0, .ref a0), (1, .int u1)]) hx hb dL_isBarrel_219 hl (by decide) rfl (fun ls hl => ?_)
      refine lv_iload hx hb dL_isBarrel_221 (lv_at hl 3 rfl) ?_
      refine rc_jn_el hm (fun J => ∀ (w_236_13 : Int32) (σ_14 : rc_S) (H : Heap) (locs : List Loc) (ls : Array Slot), J w_236_13 σ_14 = some (r, σ') → rc_W Y sh rf σ_14 H → va_S (rc_A sh s.heap.size) s.heap H locs → lv_has ls 15 [(10, .int w_219_11), (7, .int w_5), (6, .int w_4), (5, .int w_3), (4, .int w_2), (3, .int w_1), (0, .ref a0), (1, .int u1)] → W p l e (headSpec (Cond.code yL_isBarrel cL_isBarrel 15 (some .boolean) :: rc_big) ({ frames := 11, cells := 42, slots := 252, locals := 192 } : Room)).room s m (([.ref a0, .int u1, .int u2] : List Value).toArray) below meth c H locs (0 + 2 + 2 + 2 + 2 + 1 + 2 + 2 + 2 + 5) (0 + 12 + 12 + 12 + 12 + 6 + 12 + 12 + 12 + 30) (MQ below (va_Qi (fun (r' : Int32) (_ : Unit) => r' = r) (fun _ t => rc_W Y sh rf σ' t.heap) (rc_A sh s.heap.size)) ([.ref a0, .int u1, .int u2] : List Value).toArray s 42 252 (rc_A sh s.heap.size)) (F0 m 236 ls [.int w_236_13])) ?_ (fun J_236 hJ_236 hm => ?_)
      · intro w_236_13 σ_14 H locs ls hm hW hS hl
        refine lv_istore (lv' := [(11, .int w_236_13), (10, .int w_219_11), (7, .int w_5), (6, .int w_4), (5, .int w_3), (4, .int w_2), (3, .int w_1), (0, .ref a0), (1, .int u1)]) hx hb dL_isBarrel_236 hl (by decide) rfl (fun ls hl => ?_)
        refine lv_iconst (v := 0) hx hb dL_isBarrel_238 (by decide) ?_
        refine lv_istore (lv' := [(12, .int (0 : Int32)), (11, .int w_236_13), (10, .int w_219_11), (7, .int w_5), (6, .int w_4), (5, .int w_3), (4, .int w_2), (3, .int w_1), (0, .ref a0), (1, .int u1)]) hx hb dL_isBarrel_239 hl (by decide) rfl (fun ls hl => ?_)
        refine W.widen (k := 0 + 2 + 2 + 2 + 2 + 1 + 2 + 2 + 2 + 5 + (5 - 5) * 2) (n := 0 + 12 + 12 + 12 + 12 + 6 + 12 + 12 + 12 + 30 + (5 - 5) * 12) (by omega) (by omega) ?_
        refine lp_241 a0 u1 w_1 w_2 w_3 w_4 w_5 w_219_11 h0 (0 + 2 + 2 + 2 + 2 + 1 + 2 + 2 + 2 + 5) (0 + 12 + 12 + 12 + 12 + 6 + 12 + 12 + 12 + 30) (by omega) (by omega) _ (fun v11_23 v12_24 σ_25 H locs ls hm hW hS hl => ?_) 5 (Nat.le_refl _) w_236_13 (0 : Int32) σ_14 _ _ _ hm hW hS (lv_sub hl [8, 9, 7, 6, 5, 4, 3, 2, 1, 0] rfl)
        refine lv_aload_n hx hb dL_isBarrel_284 rfl (lv_at hl 0 rfl) ?_
        refine lv_iload_n hx hb dL_isBarrel_285 rfl (lv_at hl 1 rfl) ?_
        obtain ⟨w_26, σ_26, hc_26, hm0⟩ := rc_bd_inv hm
        clear hm
        refine rc_ci hS (vx_runSW (As := [.ref a0, .int u1]) (rest := []) ⟨hx, hb, hml, hown, hts⟩ (k_L_hidden l hl9 hT z a0 u1 h0 H.size _ _ _ hc_26) (vx_cwSW 2 hts (rc_gS tw_6_158 tw_6_159 tw_1_0 tw_6_160) rfl rfl rfl (by decide +kernel) ⟨Nat.le_of_ble_eq_true rfl, Nat.le_of_ble_eq_true rfl⟩) (rc_preSL hT hW hK hE hN hXz hS [.ref a0, .int u1]) rfl rfl hl.1 rfl (lv_room (Nat.le_of_ble_eq_true rfl)) dL_isBarrel_286 ⟨show 0 + 2 + 2 + 2 + 2 + 1 + 2 + 2 + 2 + 5 + 10 + 3 ≤ 42 from by omega, show 0 + 12 + 12 + 12 + 12 + 6 + 12 + 12 + 12 + 30 + 60 + 18 ≤ 252 from by omega⟩) (fun H locs hW hS => ?_)
        have hm := hm0
        clear hm0 hc_26
        refine lv_istore (lv' := [(12, .int w_26), (0, .ref a0), (1, .int u1), (3, .int w_1), (4, .int w_2), (5, .int w_3), (6, .int w_4), (7, .int w_5), (10, .int w_219_11), (11, .int v11_23)]) hx hb dL_isBarrel_289 hl (by decide) rfl (fun ls hl => ?_)
        refine lv_bipush (v := 20) hx hb dL_isBarrel_291 (by decide) ?_
        refine lv_iload_n hx hb dL_isBarrel_293 rfl (lv_at hl 3 rfl) ?_
        refine lv_isub hx hb dL_isBarrel_294 ?_
        refine lv_aload_n hx hb dL_isBarrel_295 rfl (lv_at hl 1 rfl) ?_
        refine lv_iconst (v := 2) hx hb dL_isBarrel_296 (by decide) ?_
        obtain ⟨w_27, σ_27, hc_27, hm0⟩ := rc_bd_inv hm
        clear hm
        refine rc_ci hS (vx_runSW (As := [.ref a0, .int (2 : Int32)]) (rest := [.int ((20 : Int32) - w_1)]) ⟨hx, hb, hml, hown, hts⟩ (k_L_account l hl9 hT z a0 (2 : Int32) h0 H.size _ _ _ hc_27) (vx_cwSW 2 hts (rc_gS tw_3_118 tw_3_119 tw_1_0 tw_3_120) rfl rfl rfl (by decide +kernel) ⟨Nat.le_of_ble_eq_true rfl, Nat.le_of_ble_eq_true rfl⟩) (rc_preSL hT hW hK hE hN hXz hS [.ref a0, .int (2 : Int32)]) rfl rfl hl.1 rfl (lv_room (Nat.le_of_ble_eq_true rfl)) dL_isBarrel_297 ⟨show 0 + 2 + 2 + 2 + 2 + 1 + 2 + 2 + 2 + 5 + 10 + 3 + 1 ≤ 42 from by omega, show 0 + 12 + 12 + 12 + 12 + 6 + 12 + 12 + 12 + 30 + 60 + 18 + 6 ≤ 252 from by omega⟩) (fun H locs hW hS => ?_)
        have hm := hm0
        clear hm0 hc_27
        refine va_mmin hx hb (hml.trans hl.1.symm) hown (hts _ tw_6_182) (hts _ tw_3_31) (hts _ tw_1_22) (hts _ tw_3_32) (Nat.le_of_ble_eq_true rfl) (Nat.le_of_ble_eq_true rfl) (show 0 + 2 + 2 + 2 + 2 + 1 + 2 + 2 + 2 + 5 + 10 + 3 + 1 ≤ 42 from by omega) (show 0 + 12 + 12 + 12 + 12 + 6 + 12 + 12 + 12 + 30 + 60 + 18 + 6 ≤ 252 from by omega) dL_isBarrel_300 ?_
        refine lv_topi (fun v13_28 ev => ?_)
        replace hm := rc_lt_at hm ev
        clear ev
        refine lv_istore (lv' := [(13, .int v13_28), (12, .int w_26), (0, .ref a0), (1, .int u1), (3, .int w_1), (4, .int w_2), (5, .int w_3), (6, .int w_4), (7, .int w_5), (10, .int w_219_11), (11, .int v11_23)]) hx hb dL_isBarrel_303 hl (by decide) rfl (fun ls hl => ?_)
        refine lv_aload_n hx hb dL_isBarrel_305 rfl (lv_at hl 2 rfl) ?_
        refine lv_iload_n hx hb dL_isBarrel_306 rfl (lv_at hl 3 rfl) ?_
        obtain ⟨w_29, σ_29, hc_29, hm0⟩ := rc_bd_inv hm
        clear hm
        refine rc_ci hS (vx_runSW (As := [.ref a0, .int u1]) (rest := []) ⟨hx, hb, hml, hown, hts⟩ (k_L_hiddenAgain l hl9 hT z a0 u1 h0 H.size _ _ _ hc_29) (vx_cwSW 2 hts (rc_gS tw_6_200 tw_6_201 tw_1_0 tw_6_202) rfl rfl rfl (by decide +kernel) ⟨Nat.le_of_ble_eq_true rfl, Nat.le_of_ble_eq_true rfl⟩) (rc_preSL hT hW hK hE hN hXz hS [.ref a0, .int u1]) rfl rfl hl.1 rfl (lv_room (Nat.le_of_ble_eq_true rfl)) dL_isBarrel_307 ⟨show 0 + 2 + 2 + 2 + 2 + 1 + 2 + 2 + 2 + 5 + 10 + 3 + 1 + 3 ≤ 42 from by omega, show 0 + 12 + 12 + 12 + 12 + 6 + 12 + 12 + 12 + 30 + 60 + 18 + 6 + 18 ≤ 252 from by omega⟩) (fun H locs hW hS => ?_)
        have hm := hm0
        clear hm0 hc_29
        refine lv_iload hx hb dL_isBarrel_310 (lv_at hl 1 rfl) ?_
        refine rc_jn_el hm (fun J => ∀ (w_362_30 : Int32) (σ_31 : rc_S) (H : Heap) (locs : List Loc) (ls : Array Slot), J w_362_30 σ_31 = some (r, σ') → rc_W Y sh rf σ_31 H → va_S (rc_A sh s.heap.size) s.heap H locs → lv_has ls 15 [(0, .ref a0), (1, .int u1), (3, .int w_1), (4, .int w_2), (5, .int w_3), (6, .int w_4), (10, .int w_219_11), (11, .int v11_23)] → W p l e (headSpec (Cond.code yL_isBarrel cL_isBarrel 15 (some .boolean) :: rc_big) ({ frames := 11, cells := 42, slots := 252, locals := 192 } : Room)).room s m (([.ref a0, .int u1, .int u2] : List Value).toArray) below meth c H locs (0 + 2 + 2 + 2 + 2 + 1 + 2 + 2 + 2 + 5 + 10 + 3 + 1 + 3 + 1) (0 + 12 + 12 + 12 + 12 + 6 + 12 + 12 + 12 + 30 + 60 + 18 + 6 + 18 + 6) (MQ below (va_Qi (fun (r' : Int32) (_ : Unit) => r' = r) (fun _ t => rc_W Y sh rf σ' t.heap) (rc_A sh s.heap.size)) ([.ref a0, .int u1, .int u2] : List Value).toArray s 42 252 (rc_A sh s.heap.size)) (F0 m 362 ls [.int w_362_30])) ?_ (fun J_362 hJ_362 hm => ?_)
        · intro w_362_30 σ_31 H locs ls hm hW hS hl
          refine lv_istore (lv' := [(14, .int w_362_30), (0, .ref a0), (1, .int u1), (3, .int w_1), (4, .int w_2), (5, .int w_3), (6, .int w_4), (10, .int w_219_11), (11, .int v11_23)]) hx hb dL_isBarrel_362 hl (by decide) rfl (fun ls hl => ?_)
          refine lv_iload_n hx hb dL_isBarrel_364 rfl (lv_at hl 3 rfl) ?_
          refine lv_bipush (v := 20) hx hb dL_isBarrel_365 (by decide) ?_
          refine lv_icmp_gt (tgt := 441) hx hb dL_isBarrel_367 (by decide) (fun c_45 => ?_) (fun c_45 => ?_)
          · replace hm := rc_t hm c_45
            refine lv_iconst (v := 0) hx hb dL_isBarrel_441 (by decide) ?_
            exact rc_ezret hx hb hr hlocks hW hS (by omega) (by omega) rfl hm dL_isBarrel_442
          · replace hm := rc_f hm c_45
            refine lv_iload hx hb dL_isBarrel_370 (lv_at hl 4 rfl) ?_
            refine lv_if_lt (tgt := 441) hx hb dL_isBarrel_372 (by decide) (fun c_44 => ?_) (fun c_44 => ?_)
            · replace hm := rc_t hm c_44
              refine lv_iconst (v := 0) hx hb dL_isBarrel_441 (by decide) ?_
              exact rc_ezret hx hb hr hlocks hW hS (by omega) (by omega) rfl hm dL_isBarrel_442
            · replace hm := rc_f hm c_44
              refine lv_iload hx hb dL_isBarrel_375 (lv_at hl 4 rfl) ?_
              refine lv_iload_n hx hb dL_isBarrel_377 rfl (lv_at hl 3 rfl) ?_
              refine lv_icmp_gt (tgt := 441) hx hb dL_isBarrel_378 (by decide) (fun c_43 => ?_) (fun c_43 => ?_)
              · replace hm := rc_t hm c_43
                refine lv_iconst (v := 0) hx hb dL_isBarrel_441 (by decide) ?_
                exact rc_ezret hx hb hr hlocks hW hS (by omega) (by omega) rfl hm dL_isBarrel_442
              · replace hm := rc_f hm c_43
                refine lv_iload hx hb dL_isBarrel_381 (lv_at hl 5 rfl) ?_
                refine lv_bipush (v := 100) hx hb dL_isBarrel_383 (by decide) ?_
                refine lv_iload hx hb dL_isBarrel_385 (lv_at hl 4 rfl) ?_
                refine lv_imul hx hb dL_isBarrel_387 ?_
                refine lv_iload_n hx hb dL_isBarrel_388 rfl (lv_at hl 3 rfl) ?_
                have hz_32 := (rc_nz hm).1
                replace hm := (rc_nz hm).2
                refine lv_idiv hx hb dL_isBarrel_389 hz_32 ?_
                refine lv_icmp_ne (tgt := 441) hx hb dL_isBarrel_390 (by decide) (fun c_42 => ?_) (fun c_42 => ?_)
                · replace hm := rc_f hm c_42
                  refine lv_iconst (v := 0) hx hb dL_isBarrel_441 (by decide) ?_
                  exact rc_ezret hx hb hr hlocks hW hS (by omega) (by omega) rfl hm dL_isBarrel_442
                · replace hm := rc_t hm c_42
                  refine lv_iload hx hb dL_isBarrel_393 (lv_at hl 7 rfl) ?_
                  refine lv_if_eq (tgt := 441) hx hb dL_isBarrel_395 (by decide) (fun c_41 => ?_) (fun c_41 => ?_)
                  · replace hm := rc_t hm c_41
                    refine lv_iconst (v := 0) hx hb dL_isBarrel_441 (by decide) ?_
                    exact rc_ezret hx hb hr hlocks hW hS (by omega) (by omega) rfl hm dL_isBarrel_442
                  · replace hm := rc_f hm c_41
                    refine lv_iload hx hb dL_isBarrel_398 (lv_at hl 8 rfl) ?_
                    refine lv_if_eq (tgt := 441) hx hb dL_isBarrel_400 (by decide) (fun c_40 => ?_) (fun c_40 => ?_)
                    · replace hm := rc_t hm c_40
                      refine lv_iconst (v := 0) hx hb dL_isBarrel_441 (by decide) ?_
                      exact rc_ezret hx hb hr hlocks hW hS (by omega) (by omega) rfl hm dL_isBarrel_442
                    · replace hm := rc_f hm c_40
                      refine lv_iload hx hb dL_isBarrel_403 (lv_at hl 0 rfl) ?_
                      refine lv_if_eq (tgt := 441) hx hb dL_isBarrel_405 (by decide) (fun c_39 => ?_) (fun c_39 => ?_)
                      · replace hm := rc_t hm c_39
                        refine lv_iconst (v := 0) hx hb dL_isBarrel_441 (by decide) ?_
                        exact rc_ezret hx hb hr hlocks hW hS (by omega) (by omega) rfl hm dL_isBarrel_442
                      · replace hm := rc_f hm c_39
                        refine lv_aload_n hx hb dL_isBarrel_408 rfl (lv_at hl 1 rfl) ?_
                        refine lv_iload_n hx hb dL_isBarrel_409 rfl (lv_at hl 2 rfl) ?_
                        refine lv_iconst (v := 3) hx hb dL_isBarrel_410 (by decide) ?_
                        obtain ⟨w_33, σ_33, hc_33, hm0⟩ := rc_bd_inv hm
                        clear hm
                        refine rc_ci hS (vx_runSW (As := [.ref a0, .int u1, .int (3 : Int32)]) (rest := []) ⟨hx, hb, hml, hown, hts⟩ (k_L_barrelOf l hl9 hT z a0 u1 (3 : Int32) h0 H.size _ _ _ hc_33) (vx_cwSW 3 hts (rc_gS tw_6_45 tw_6_46 tw_1_0 tw_6_47) rfl rfl rfl (by decide +kernel) ⟨Nat.le_of_ble_eq_true rfl, Nat.le_of_ble_eq_true rfl⟩) (rc_preSL hT hW hK hE hN hXz hS [.ref a0, .int u1, .int (3 : Int32)]) rfl rfl hl.1 rfl (lv_room (Nat.le_of_ble_eq_true rfl)) dL_isBarrel_411 ⟨show 0 + 2 + 2 + 2 + 2 + 1 + 2 + 2 + 2 + 5 + 10 + 3 + 1 + 3 + 1 + 2 ≤ 42 from by omega, show 0 + 12 + 12 + 12 + 12 + 6 + 12 + 12 + 12 + 30 + 60 + 18 + 6 + 18 + 6 + 12 ≤ 252 from by omega⟩) (fun H locs hW hS => ?_)
                        have hm := hm0
                        clear hm0 hc_33
                        refine lv_aload_n hx hb dL_isBarrel_414 rfl (lv_at hl 1 rfl) ?_
                        refine lv_iconst (v := 5) hx hb dL_isBarrel_415 (by decide) ?_
                        obtain ⟨w_34, σ_34, hc_34, hm0⟩ := rc_bd_inv hm
                        clear hm
                        refine rc_ci hS (vx_runSW (As := [.ref a0, .int (5 : Int32)]) (rest := [.int w_33]) ⟨hx, hb, hml, hown, hts⟩ (k_L_account l hl9 hT z a0 (5 : Int32) h0 H.size _ _ _ hc_34) (vx_cwSW 2 hts (rc_gS tw_3_118 tw_3_119 tw_1_0 tw_3_120) rfl rfl rfl (by decide +kernel) ⟨Nat.le_of_ble_eq_true rfl, Nat.le_of_ble_eq_true rfl⟩) (rc_preSL hT hW hK hE hN hXz hS [.ref a0, .int (5 : Int32)]) rfl rfl hl.1 rfl (lv_room (Nat.le_of_ble_eq_true rfl)) dL_isBarrel_416 ⟨show 0 + 2 + 2 + 2 + 2 + 1 + 2 + 2 + 2 + 5 + 10 + 3 + 1 + 3 + 1 + 2 + 1 ≤ 42 from by omega, show 0 + 12 + 12 + 12 + 12 + 6 + 12 + 12 + 12 + 30 + 60 + 18 + 6 + 18 + 6 + 12 + 6 ≤ 252 from by omega⟩) (fun H locs hW hS => ?_)
                        have hm := hm0
                        clear hm0 hc_34
                        refine lv_icmp_ge (tgt := 441) hx hb dL_isBarrel_419 (by decide) (fun c_38 => ?_) (fun c_38 => ?_)
                        · replace hm := rc_t hm c_38
                          refine lv_iconst (v := 0) hx hb dL_isBarrel_441 (by decide) ?_
                          exact rc_ezret hx hb hr hlocks hW hS (by omega) (by omega) rfl hm dL_isBarrel_442
                        · replace hm := rc_f hm c_38
                          refine lv_iload hx hb dL_isBarrel_422 (lv_at hl 6 rfl) ?_
                          refine lv_if_lt (tgt := 441) hx hb dL_isBarrel_424 (by decide) (fun c_37 => ?_) (fun c_37 => ?_)
                          · replace hm := rc_t hm c_37
                            refine lv_iconst (v := 0) hx hb dL_isBarrel_441 (by decide) ?_
                            exact rc_ezret hx hb hr hlocks hW hS (by omega) (by omega) rfl hm dL_isBarrel_442
                          · replace hm := rc_f hm c_37
                            refine lv_iload hx hb dL_isBarrel_427 (lv_at hl 6 rfl) ?_
                            refine lv_aload_n hx hb dL_isBarrel_429 rfl (lv_at hl 1 rfl) ?_
                            refine lv_iconst (v := 4) hx hb dL_isBarrel_430 (by decide) ?_
                            obtain ⟨w_35, σ_35, hc_35, hm0⟩ := rc_bd_inv hm
                            clear hm
                            refine rc_ci hS (vx_runSW (As := [.ref a0, .int (4 : Int32)]) (rest := [.int w_4]) ⟨hx, hb, hml, hown, hts⟩ (k_L_account l hl9 hT z a0 (4 : Int32) h0 H.size _ _ _ hc_35) (vx_cwSW 2 hts (rc_gS tw_3_118 tw_3_119 tw_1_0 tw_3_120) rfl rfl rfl (by decide +kernel) ⟨Nat.le_of_ble_eq_true rfl, Nat.le_of_ble_eq_true rfl⟩) (rc_preSL hT hW hK hE hN hXz hS [.ref a0, .int (4 : Int32)]) rfl rfl hl.1 rfl (lv_room (Nat.le_of_ble_eq_true rfl)) dL_isBarrel_431 ⟨show 0 + 2 + 2 + 2 + 2 + 1 + 2 + 2 + 2 + 5 + 10 + 3 + 1 + 3 + 1 + 2 + 1 + 1 ≤ 42 from by omega, show 0 + 12 + 12 + 12 + 12 + 6 + 12 + 12 + 12 + 30 + 60 + 18 + 6 + 18 + 6 + 12 + 6 + 6 ≤ 252 from by omega⟩) (fun H locs hW hS => ?_)
                            have hm := hm0
                            clear hm0 hc_35
                            refine lv_icmp_gt (tgt := 441) hx hb dL_isBarrel_434 (by decide) (fun c_36 => ?_) (fun c_36 => ?_)
                            · replace hm := rc_t hm c_36
                              refine lv_iconst (v := 0) hx hb dL_isBarrel_441 (by decide) ?_
                              exact rc_ezret hx hb hr hlocks hW hS (by omega) (by omega) rfl hm dL_isBarrel_442
                            · replace hm := rc_f hm c_36
                              refine lv_iconst (v := 1) hx hb dL_isBarrel_437 (by decide) ?_
                              refine lv_goto (tgt := 442) hx hb dL_isBarrel_438 (by decide) ?_
                              exact rc_ezret hx hb hr hlocks hW hS (by omega) (by omega) rfl hm dL_isBarrel_442
        refine lv_icmp_ne (tgt := 361) hx hb dL_isBarrel_312 (by decide) (fun c_53 => ?_) (fun c_53 => ?_)
        · replace hm := rc_f hm c_53
          refine lv_iconst (v := 0) hx hb dL_isBarrel_361 (by decide) ?_
          refine W.widen (k := 0 + 2 + 2 + 2 + 2 + 1 + 2 + 2 + 2 + 5 + 10 + 3 + 1 + 3 + 1) (n := 0 + 12 + 12 + 12 + 12 + 6 + 12 + 12 + 12 + 30 + 60 + 18 + 6 + 18 + 6) (by omega) (by omega) ?_
          exact hJ_362 (0 : Int32) σ_29 _ _ _ hm hW hS (lv_sub hl [2, 3, 4, 5, 6, 7, 9, 10] rfl)
        · replace hm := rc_t hm c_53
          refine lv_iload hx hb dL_isBarrel_315 (lv_at hl 8 rfl) ?_
          refine lv_if_eq (tgt := 330) hx hb dL_isBarrel_317 (by decide) (fun c_52 => ?_) (fun c_52 => ?_)
          · replace hm := rc_t hm c_52
            refine lv_iload hx hb dL_isBarrel_330 (lv_at hl 1 rfl) ?_
            refine lv_if_lt (tgt := 361) hx hb dL_isBarrel_332 (by decide) (fun c_50 => ?_) (fun c_50 => ?_)
            · replace hm := rc_t hm c_50
              refine lv_iconst (v := 0) hx hb dL_isBarrel_361 (by decide) ?_
              refine W.widen (k := 0 + 2 + 2 + 2 + 2 + 1 + 2 + 2 + 2 + 5 + 10 + 3 + 1 + 3 + 1) (n := 0 + 12 + 12 + 12 + 12 + 6 + 12 + 12 + 12 + 30 + 60 + 18 + 6 + 18 + 6) (by omega) (by omega) ?_
              exact hJ_362 (0 : Int32) σ_29 _ _ _ hm hW hS (lv_sub hl [2, 3, 4, 5, 6, 7, 9, 10] rfl)
            · replace hm := rc_f hm c_50
              refine lv_iload hx hb dL_isBarrel_335 (lv_at hl 1 rfl) ?_
              refine lv_iload hx hb dL_isBarrel_337 (lv_at hl 0 rfl) ?_
              refine lv_icmp_gt (tgt := 361) hx hb dL_isBarrel_339 (by decide) (fun c_49 => ?_) (fun c_49 => ?_)
              · replace hm := rc_t hm c_49
                refine lv_iconst (v := 0) hx hb dL_isBarrel_361 (by decide) ?_
                refine W.widen (k := 0 + 2 + 2 + 2 + 2 + 1 + 2 + 2 + 2 + 5 + 10 + 3 + 1 + 3 + 1) (n := 0 + 12 + 12 + 12 + 12 + 6 + 12 + 12 + 12 + 30 + 60 + 18 + 6 + 18 + 6) (by omega) (by omega) ?_
                exact hJ_362 (0 : Int32) σ_29 _ _ _ hm hW hS (lv_sub hl [2, 3, 4, 5, 6, 7, 9, 10] rfl)
              · replace hm := rc_f hm c_49
                refine lv_aload_n hx hb dL_isBarrel_342 rfl (lv_at hl 2 rfl) ?_
                refine lv_iconst (v := 3) hx hb dL_isBarrel_343 (by decide) ?_
                obtain ⟨w_46, σ_46, hc_46, hm0⟩ := rc_bd_inv hm
                clear hm
                refine rc_ci hS (vx_runSW (As := [.ref a0, .int (3 : Int32)]) (rest := []) ⟨hx, hb, hml, hown, hts⟩ (k_L_account l hl9 hT z a0 (3 : Int32) h0 H.size _ _ _ hc_46) (vx_cwSW 2 hts (rc_gS tw_3_118 tw_3_119 tw_1_0 tw_3_120) rfl rfl rfl (by decide +kernel) ⟨Nat.le_of_ble_eq_true rfl, Nat.le_of_ble_eq_true rfl⟩) (rc_preSL hT hW hK hE hN hXz hS [.ref a0, .int (3 : Int32)]) rfl rfl hl.1 rfl (lv_room (Nat.le_of_ble_eq_true rfl)) dL_isBarrel_344 ⟨show 0 + 2 + 2 + 2 + 2 + 1 + 2 + 2 + 2 + 5 + 10 + 3 + 1 + 3 + 1 ≤ 42 from by omega, show 0 + 12 + 12 + 12 + 12 + 6 + 12 + 12 + 12 + 30 + 60 + 18 + 6 + 18 + 6 ≤ 252 from by omega⟩) (fun H locs hW hS => ?_)
                have hm := hm0
                clear hm0 hc_46
                refine lv_if_gt (tgt := 357) hx hb dL_isBarrel_347 (by decide) (fun c_48 => ?_) (fun c_48 => ?_)
                · replace hm := rc_t hm c_48
                  refine lv_iconst (v := 1) hx hb dL_isBarrel_357 (by decide) ?_
                  refine lv_goto (tgt := 362) hx hb dL_isBarrel_358 (by decide) ?_
                  refine W.widen (k := 0 + 2 + 2 + 2 + 2 + 1 + 2 + 2 + 2 + 5 + 10 + 3 + 1 + 3 + 1) (n := 0 + 12 + 12 + 12 + 12 + 6 + 12 + 12 + 12 + 30 + 60 + 18 + 6 + 18 + 6) (by omega) (by omega) ?_
                  exact hJ_362 (1 : Int32) σ_46 _ _ _ hm hW hS (lv_sub hl [2, 3, 4, 5, 6, 7, 9, 10] rfl)
                · replace hm := rc_f hm c_48
                  refine lv_iload hx hb dL_isBarrel_350 (lv_at hl 1 rfl) ?_
                  refine lv_iload hx hb dL_isBarrel_352 (lv_at hl 0 rfl) ?_
                  refine lv_icmp_ne (tgt := 361) hx hb dL_isBarrel_354 (by decide) (fun c_47 => ?_) (fun c_47 => ?_)
                  · replace hm := rc_f hm c_47
                    refine lv_iconst (v := 0) hx hb dL_isBarrel_361 (by decide) ?_
                    refine W.widen (k := 0 + 2 + 2 + 2 + 2 + 1 + 2 + 2 + 2 + 5 + 10 + 3 + 1 + 3 + 1) (n := 0 + 12 + 12 + 12 + 12 + 6 + 12 + 12 + 12 + 30 + 60 + 18 + 6 + 18 + 6) (by omega) (by omega) ?_
                    exact hJ_362 (0 : Int32) σ_46 _ _ _ hm hW hS (lv_sub hl [2, 3, 4, 5, 6, 7, 9, 10] rfl)
                  · replace hm := rc_t hm c_47
                    refine lv_iconst (v := 1) hx hb dL_isBarrel_357 (by decide) ?_
                    refine lv_goto (tgt := 362) hx hb dL_isBarrel_358 (by decide) ?_
                    refine W.widen (k := 0 + 2 + 2 + 2 + 2 + 1 + 2 + 2 + 2 + 5 + 10 + 3 + 1 + 3 + 1) (n := 0 + 12 + 12 + 12 + 12 + 6 + 12 + 12 + 12 + 30 + 60 + 18 + 6 + 18 + 6) (by omega) (by omega) ?_
                    exact hJ_362 (1 : Int32) σ_46 _ _ _ hm hW hS (lv_sub hl [2, 3, 4, 5, 6, 7, 9, 10] rfl)
          · replace hm := rc_f hm c_52
            refine lv_iload hx hb dL_isBarrel_320 (lv_at hl 1 rfl) ?_
            refine lv_bipush (v := (-75)) hx hb dL_isBarrel_322 (by decide) ?_
            refine lv_icmp_ne (tgt := 361) hx hb dL_isBarrel_324 (by decide) (fun c_51 => ?_) (fun c_51 => ?_)
            · replace hm := rc_f hm c_51
              refine lv_iconst (v := 0) hx hb dL_isBarrel_361 (by decide) ?_
              refine W.widen (k := 0 + 2 + 2 + 2 + 2 + 1 + 2 + 2 + 2 + 5 + 10 + 3 + 1 + 3 + 1) (n := 0 + 12 + 12 + 12 + 12 + 6 + 12 + 12 + 12 + 30 + 60 + 18 + 6 + 18 + 6) (by omega) (by omega) ?_
              exact hJ_362 (0 : Int32) σ_29 _ _ _ hm hW hS (lv_sub hl [2, 3, 4, 5, 6, 7, 9, 10] rfl)
            · replace hm := rc_t hm c_51
              refine lv_goto (tgt := 357) hx hb dL_isBarrel_327 (by decide) ?_
              refine lv_iconst (v := 1) hx hb dL_isBarrel_357 (by decide) ?_
              refine lv_goto (tgt := 362) hx hb dL_isBarrel_358 (by decide) ?_
              refine W.widen (k := 0 + 2 + 2 + 2 + 2 + 1 + 2 + 2 + 2 + 5 + 10 + 3 + 1 + 3 + 1) (n := 0 + 12 + 12 + 12 + 12 + 6 + 12 + 12 + 12 + 30 + 60 + 18 + 6 + 18 + 6) (by omega) (by omega) ?_
              exact hJ_362 (1 : Int32) σ_29 _ _ _ hm hW hS (lv_sub hl [2, 3, 4, 5, 6, 7, 9, 10] rfl)
      refine lv_if_gt (tgt := 231) hx hb dL_isBarrel_223 (by decide) (fun c_55 => ?_) (fun c_55 => ?_)
      · replace hm := rc_t hm c_55
        refine lv_iconst (v := 1) hx hb dL_isBarrel_231 (by decide) ?_
        refine lv_goto (tgt := 236) hx hb dL_isBarrel_232 (by decide) ?_
        refine W.widen (k := 0 + 2 + 2 + 2 + 2 + 1 + 2 + 2 + 2 + 5) (n := 0 + 12 + 12 + 12 + 12 + 6 + 12 + 12 + 12 + 30) (by omega) (by omega) ?_
        exact hJ_236 (1 : Int32) σ_12 _ _ _ hm hW hS (lv_sub hl [0, 1, 2, 3, 4, 5, 6, 7] rfl)
      · replace hm := rc_f hm c_55
        refine lv_iload hx hb dL_isBarrel_226 (lv_at hl 1 rfl) ?_
        refine lv_if_ne (tgt := 235) hx hb dL_isBarrel_228 (by decide) (fun c_54 => ?_) (fun c_54 => ?_)
        · replace hm := rc_f hm c_54
          refine lv_iconst (v := 0) hx hb dL_isBarrel_235 (by decide) ?_
          refine W.widen (k := 0 + 2 + 2 + 2 + 2 + 1 + 2 + 2 + 2 + 5) (n := 0 + 12 + 12 + 12 + 12 + 6 + 12 + 12 + 12 + 30) (by omega) (by omega) ?_
          exact hJ_236 (0 : Int32) σ_12 _ _ _ hm hW hS (lv_sub hl [0, 1, 2, 3, 4, 5, 6, 7] rfl)
        · replace hm := rc_t hm c_54
          refine lv_iconst (v := 1) hx hb dL_isBarrel_231 (by decide) ?_
          refine lv_goto (tgt := 236) hx hb dL_isBarrel_232 (by decide) ?_
          refine W.widen (k := 0 + 2 + 2 + 2 + 2 + 1 + 2 + 2 + 2 + 5) (n := 0 + 12 + 12 + 12 + 12 + 6 + 12 + 12 + 12 + 30) (by omega) (by omega) ?_
          exact hJ_236 (1 : Int32) σ_12 _ _ _ hm hW hS (lv_sub hl [0, 1, 2, 3, 4, 5, 6, 7] rfl)
    refine lv_icmp_ne (tgt := 218) hx hb dL_isBarrel_190 (by decide) (fun c_60 => ?_) (fun c_60 => ?_)
    · replace hm := rc_f hm c_60
      refine lv_iconst (v := 0) hx hb dL_isBarrel_218 (by decide) ?_
      refine W.widen (k := 0 + 2 + 2 + 2 + 2 + 1 + 2 + 2 + 2 + 5) (n := 0 + 12 + 12 + 12 + 12 + 6 + 12 + 12 + 12 + 30) (by omega) (by omega) ?_
      exact hJ_219 (0 : Int32) σ_10 _ _ _ hm hW hS (lv_sub hl [2, 3, 4, 5, 6, 7, 8] rfl)
    · replace hm := rc_t hm c_60
      refine lv_aload_n hx hb dL_isBarrel_193 rfl (lv_at hl 7 rfl) ?_
      refine lv_iload_n hx hb dL_isBarrel_194 rfl (lv_at hl 8 rfl) ?_
      obtain ⟨w_56, σ_56, hc_56, hm0⟩ := rc_bd_inv hm
      clear hm
      refine rc_ci hS (vx_runSW (As := [.ref a0, .int u1]) (rest := []) ⟨hx, hb, hml, hown, hts⟩ (k_L_noteAgain l hl9 hT z a0 u1 h0 H.size _ _ _ hc_56) (vx_cwSW 2 hts (rc_gS tw_6_147 tw_6_148 tw_1_0 tw_6_149) rfl rfl rfl (by decide +kernel) ⟨Nat.le_of_ble_eq_true rfl, Nat.le_of_ble_eq_true rfl⟩) (rc_preSL hT hW hK hE hN hXz hS [.ref a0, .int u1]) rfl rfl hl.1 rfl (lv_room (Nat.le_of_ble_eq_true rfl)) dL_isBarrel_195 ⟨show 0 + 2 + 2 + 2 + 2 + 1 + 2 + 2 + 2 + 2 ≤ 42 from by omega, show 0 + 12 + 12 + 12 + 12 + 6 + 12 + 12 + 12 + 12 ≤ 252 from by omega⟩) (fun H locs hW hS => ?_)
      have hm := hm0
      clear hm0 hc_56
      refine lv_iload hx hb dL_isBarrel_198 (lv_at hl 1 rfl) ?_
      refine lv_icmp_ne (tgt := 218) hx hb dL_isBarrel_200 (by decide) (fun c_59 => ?_) (fun c_59 => ?_)
      · replace hm := rc_f hm c_59
        refine lv_iconst (v := 0) hx hb dL_isBarrel_218 (by decide) ?_
        refine W.widen (k := 0 + 2 + 2 + 2 + 2 + 1 + 2 + 2 + 2 + 5) (n := 0 + 12 + 12 + 12 + 12 + 6 + 12 + 12 + 12 + 30) (by omega) (by omega) ?_
        exact hJ_219 (0 : Int32) σ_56 _ _ _ hm hW hS (lv_sub hl [2, 3, 4, 5, 6, 7, 8] rfl)
      · replace hm := rc_t hm c_59
        refine lv_aload_n hx hb dL_isBarrel_203 rfl (lv_at hl 7 rfl) ?_
        refine lv_iload_n hx hb dL_isBarrel_204 rfl (lv_at hl 8 rfl) ?_
        refine lv_iload_n hx hb dL_isBarrel_205 rfl (lv_at hl 9 rfl) ?_
        obtain ⟨w_57, σ_57, hc_57, hm0⟩ := rc_bd_inv hm
        clear hm
        refine rc_ci hS (vx_runSW (As := [.ref a0, .int u1, .int u2]) (rest := []) ⟨hx, hb, hml, hown, hts⟩ (k_L_noteIn l hl9 hT z a0 u1 u2 h0 H.size _ _ _ hc_57) (vx_cwSW 3 hts (rc_gS tw_6_183 tw_6_184 tw_1_0 tw_6_185) rfl rfl rfl (by decide +kernel) ⟨Nat.le_of_ble_eq_true rfl, Nat.le_of_ble_eq_true rfl⟩) (rc_preSL hT hW hK hE hN hXz hS [.ref a0, .int u1, .int u2]) rfl rfl hl.1 rfl (lv_room (Nat.le_of_ble_eq_true rfl)) dL_isBarrel_206 ⟨show 0 + 2 + 2 + 2 + 2 + 1 + 2 + 2 + 2 + 2 + 3 ≤ 42 from by omega, show 0 + 12 + 12 + 12 + 12 + 6 + 12 + 12 + 12 + 12 + 18 ≤ 252 from by omega⟩) (fun H locs hW hS => ?_)
        have hm := hm0
        clear hm0 hc_57
        refine lv_iload hx hb dL_isBarrel_209 (lv_at hl 0 rfl) ?_
        refine lv_icmp_ne (tgt := 218) hx hb dL_isBarrel_211 (by decide) (fun c_58 => ?_) (fun c_58 => ?_)
        · replace hm := rc_f hm c_58
          refine lv_iconst (v := 0) hx hb dL_isBarrel_218 (by decide) ?_
          refine W.widen (k := 0 + 2 + 2 + 2 + 2 + 1 + 2 + 2 + 2 + 5) (n := 0 + 12 + 12 + 12 + 12 + 6 + 12 + 12 + 12 + 30) (by omega) (by omega) ?_
          exact hJ_219 (0 : Int32) σ_57 _ _ _ hm hW hS (lv_sub hl [2, 3, 4, 5, 6, 7, 8] rfl)
        · replace hm := rc_t hm c_58
          refine lv_iconst (v := 1) hx hb dL_isBarrel_214 (by decide) ?_
          refine lv_goto (tgt := 219) hx hb dL_isBarrel_215 (by decide) ?_
          refine W.widen (k := 0 + 2 + 2 + 2 + 2 + 1 + 2 + 2 + 2 + 5) (n := 0 + 12 + 12 + 12 + 12 + 6 + 12 + 12 + 12 + 30) (by omega) (by omega) ?_
          exact hJ_219 (1 : Int32) σ_57 _ _ _ hm hW hS (lv_sub hl [2, 3, 4, 5, 6, 7, 8] rfl)
  · replace hm := rc_t hm c_77
    refine lv_iload hx hb dL_isBarrel_43 (lv_at hl 3 rfl) ?_
    refine lv_if_ne (tgt := 125) hx hb dL_isBarrel_45 (by decide) (fun c_76 => ?_) (fun c_76 => ?_)
    · replace hm := rc_f hm c_76
      refine lv_iconst (v := 0) hx hb dL_isBarrel_125 (by decide) ?_
      exact rc_ezret hx hb hr hlocks hW hS (by omega) (by omega) rfl hm dL_isBarrel_126
    · replace hm := rc_t hm c_76
      refine lv_aload_n hx hb dL_isBarrel_48 rfl (lv_at hl 5 rfl) ?_
      refine lv_iload_n hx hb dL_isBarrel_49 rfl (lv_at hl 6 rfl) ?_
      refine lv_iconst (v := 3) hx hb dL_isBarrel_50 (by decide) ?_
      obtain ⟨w_61, σ_61, hc_61, hm0⟩ := rc_bd_inv hm
      clear hm
      refine rc_ci hS (vx_runSW (As := [.ref a0, .int u1, .int (3 : Int32)]) (rest := []) ⟨hx, hb, hml, hown, hts⟩ (k_L_barrelOf l hl9 hT z a0 u1 (3 : Int32) h0 H.size _ _ _ hc_61) (vx_cwSW 3 hts (rc_gS tw_6_45 tw_6_46 tw_1_0 tw_6_47) rfl rfl rfl (by decide +kernel) ⟨Nat.le_of_ble_eq_true rfl, Nat.le_of_ble_eq_true rfl⟩) (rc_preSL hT hW hK hE hN hXz hS [.ref a0, .int u1, .int (3 : Int32)]) rfl rfl hl.1 rfl (lv_room (Nat.le_of_ble_eq_true rfl)) dL_isBarrel_51 ⟨show 0 + 2 + 2 + 2 + 2 + 1 + 2 ≤ 42 from by omega, show 0 + 12 + 12 + 12 + 12 + 6 + 12 ≤ 252 from by omega⟩) (fun H locs hW hS => ?_)
      have hm := hm0
      clear hm0 hc_61
      refine lv_iconst (v := (-1)) hx hb dL_isBarrel_54 (by decide) ?_
      refine lv_icmp_ne (tgt := 125) hx hb dL_isBarrel_55 (by decide) (fun c_75 => ?_) (fun c_75 => ?_)
      · replace hm := rc_f hm c_75
        refine lv_iconst (v := 0) hx hb dL_isBarrel_125 (by decide) ?_
        exact rc_ezret hx hb hr hlocks hW hS (by omega) (by omega) rfl hm dL_isBarrel_126
      · replace hm := rc_t hm c_75
        refine lv_aload_n hx hb dL_isBarrel_58 rfl (lv_at hl 5 rfl) ?_
        refine lv_iload_n hx hb dL_isBarrel_59 rfl (lv_at hl 6 rfl) ?_
        refine lv_iconst (v := 4) hx hb dL_isBarrel_60 (by decide) ?_
        obtain ⟨w_62, σ_62, hc_62, hm0⟩ := rc_bd_inv hm
        clear hm
        refine rc_ci hS (vx_runSW (As := [.ref a0, .int u1, .int (4 : Int32)]) (rest := []) ⟨hx, hb, hml, hown, hts⟩ (k_L_barrelOf l hl9 hT z a0 u1 (4 : Int32) h0 H.size _ _ _ hc_62) (vx_cwSW 3 hts (rc_gS tw_6_45 tw_6_46 tw_1_0 tw_6_47) rfl rfl rfl (by decide +kernel) ⟨Nat.le_of_ble_eq_true rfl, Nat.le_of_ble_eq_true rfl⟩) (rc_preSL hT hW hK hE hN hXz hS [.ref a0, .int u1, .int (4 : Int32)]) rfl rfl hl.1 rfl (lv_room (Nat.le_of_ble_eq_true rfl)) dL_isBarrel_61 ⟨show 0 + 2 + 2 + 2 + 2 + 1 + 2 + 2 ≤ 42 from by omega, show 0 + 12 + 12 + 12 + 12 + 6 + 12 + 12 ≤ 252 from by omega⟩) (fun H locs hW hS => ?_)
        have hm := hm0
        clear hm0 hc_62
        refine lv_if_ne (tgt := 125) hx hb dL_isBarrel_64 (by decide) (fun c_74 => ?_) (fun c_74 => ?_)
        · replace hm := rc_f hm c_74
          refine lv_iconst (v := 0) hx hb dL_isBarrel_125 (by decide) ?_
          exact rc_ezret hx hb hr hlocks hW hS (by omega) (by omega) rfl hm dL_isBarrel_126
        · replace hm := rc_t hm c_74
          refine lv_iload hx hb dL_isBarrel_67 (lv_at hl 1 rfl) ?_
          refine lv_if_ne (tgt := 125) hx hb dL_isBarrel_69 (by decide) (fun c_73 => ?_) (fun c_73 => ?_)
          · replace hm := rc_f hm c_73
            refine lv_iconst (v := 0) hx hb dL_isBarrel_125 (by decide) ?_
            exact rc_ezret hx hb hr hlocks hW hS (by omega) (by omega) rfl hm dL_isBarrel_126
          · replace hm := rc_t hm c_73
            refine lv_iload hx hb dL_isBarrel_72 (lv_at hl 2 rfl) ?_
            refine lv_if_ne (tgt := 125) hx hb dL_isBarrel_74 (by decide) (fun c_72 => ?_) (fun c_72 => ?_)
            · replace hm := rc_f hm c_72
              refine lv_iconst (v := 0) hx hb dL_isBarrel_125 (by decide) ?_
              exact rc_ezret hx hb hr hlocks hW hS (by omega) (by omega) rfl hm dL_isBarrel_126
            · replace hm := rc_t hm c_72
              refine lv_aload_n hx hb dL_isBarrel_77 rfl (lv_at hl 5 rfl) ?_
              refine lv_iload_n hx hb dL_isBarrel_78 rfl (lv_at hl 6 rfl) ?_
              obtain ⟨w_63, σ_63, hc_63, hm0⟩ := rc_bd_inv hm
              clear hm
              refine rc_ci hS (vx_runSW (As := [.ref a0, .int u1]) (rest := []) ⟨hx, hb, hml, hown, hts⟩ (k_L_note l hl9 hT z a0 u1 h0 H.size _ _ _ hc_63) (vx_cwSW 2 hts (rc_gS tw_2_117 tw_2_118 tw_1_0 tw_2_119) rfl rfl rfl (by decide +kernel) ⟨Nat.le_of_ble_eq_true rfl, Nat.le_of_ble_eq_true rfl⟩) (rc_preSL hT hW hK hE hN hXz hS [.ref a0, .int u1]) rfl rfl hl.1 rfl (lv_room (Nat.le_of_ble_eq_true rfl)) dL_isBarrel_79 ⟨show 0 + 2 + 2 + 2 + 2 + 1 + 2 + 2 + 2 ≤ 42 from by omega, show 0 + 12 + 12 + 12 + 12 + 6 + 12 + 12 + 12 ≤ 252 from by omega⟩) (fun H locs hW hS => ?_)
              have hm := hm0
              clear hm0 hc_63
              refine lv_bipush (v := (-75)) hx hb dL_isBarrel_82 (by decide) ?_
              refine lv_icmp_ne (tgt := 125) hx hb dL_isBarrel_84 (by decide) (fun c_71 => ?_) (fun c_71 => ?_)
              · replace hm := rc_f hm c_71
                refine lv_iconst (v := 0) hx hb dL_isBarrel_125 (by decide) ?_
                exact rc_ezret hx hb hr hlocks hW hS (by omega) (by omega) rfl hm dL_isBarrel_126
              · replace hm := rc_t hm c_71
                refine lv_aload_n hx hb dL_isBarrel_87 rfl (lv_at hl 5 rfl) ?_
                refine lv_iload_n hx hb dL_isBarrel_88 rfl (lv_at hl 6 rfl) ?_
                obtain ⟨w_64, σ_64, hc_64, hm0⟩ := rc_bd_inv hm
                clear hm
                refine rc_ci hS (vx_runSW (As := [.ref a0, .int u1]) (rest := []) ⟨hx, hb, hml, hown, hts⟩ (k_L_noteAgain l hl9 hT z a0 u1 h0 H.size _ _ _ hc_64) (vx_cwSW 2 hts (rc_gS tw_6_147 tw_6_148 tw_1_0 tw_6_149) rfl rfl rfl (by decide +kernel) ⟨Nat.le_of_ble_eq_true rfl, Nat.le_of_ble_eq_true rfl⟩) (rc_preSL hT hW hK hE hN hXz hS [.ref a0, .int u1]) rfl rfl hl.1 rfl (lv_room (Nat.le_of_ble_eq_true rfl)) dL_isBarrel_89 ⟨show 0 + 2 + 2 + 2 + 2 + 1 + 2 + 2 + 2 + 2 ≤ 42 from by omega, show 0 + 12 + 12 + 12 + 12 + 6 + 12 + 12 + 12 + 12 ≤ 252 from by omega⟩) (fun H locs hW hS => ?_)
                have hm := hm0
                clear hm0 hc_64
                refine lv_bipush (v := (-75)) hx hb dL_isBarrel_92 (by decide) ?_
                refine lv_icmp_ne (tgt := 125) hx hb dL_isBarrel_94 (by decide) (fun c_70 => ?_) (fun c_70 => ?_)
                · replace hm := rc_f hm c_70
                  refine lv_iconst (v := 0) hx hb dL_isBarrel_125 (by decide) ?_
                  exact rc_ezret hx hb hr hlocks hW hS (by omega) (by omega) rfl hm dL_isBarrel_126
                · replace hm := rc_t hm c_70
                  refine lv_iload hx hb dL_isBarrel_97 (lv_at hl 0 rfl) ?_
                  refine lv_if_ne (tgt := 125) hx hb dL_isBarrel_99 (by decide) (fun c_69 => ?_) (fun c_69 => ?_)
                  · replace hm := rc_f hm c_69
                    refine lv_iconst (v := 0) hx hb dL_isBarrel_125 (by decide) ?_
                    exact rc_ezret hx hb hr hlocks hW hS (by omega) (by omega) rfl hm dL_isBarrel_126
                  · replace hm := rc_t hm c_69
                    refine lv_aload_n hx hb dL_isBarrel_102 rfl (lv_at hl 5 rfl) ?_
                    refine lv_iload_n hx hb dL_isBarrel_103 rfl (lv_at hl 6 rfl) ?_
                    obtain ⟨w_65, σ_65, hc_65, hm0⟩ := rc_bd_inv hm
                    clear hm
                    refine rc_ci hS (vx_runSW (As := [.ref a0, .int u1]) (rest := []) ⟨hx, hb, hml, hown, hts⟩ (k_L_hidden l hl9 hT z a0 u1 h0 H.size _ _ _ hc_65) (vx_cwSW 2 hts (rc_gS tw_6_158 tw_6_159 tw_1_0 tw_6_160) rfl rfl rfl (by decide +kernel) ⟨Nat.le_of_ble_eq_true rfl, Nat.le_of_ble_eq_true rfl⟩) (rc_preSL hT hW hK hE hN hXz hS [.ref a0, .int u1]) rfl rfl hl.1 rfl (lv_room (Nat.le_of_ble_eq_true rfl)) dL_isBarrel_104 ⟨show 0 + 2 + 2 + 2 + 2 + 1 + 2 + 2 + 2 + 2 + 3 ≤ 42 from by omega, show 0 + 12 + 12 + 12 + 12 + 6 + 12 + 12 + 12 + 12 + 18 ≤ 252 from by omega⟩) (fun H locs hW hS => ?_)
                    have hm := hm0
                    clear hm0 hc_65
                    refine lv_bipush (v := (-75)) hx hb dL_isBarrel_107 (by decide) ?_
                    refine lv_icmp_ne (tgt := 125) hx hb dL_isBarrel_109 (by decide) (fun c_68 => ?_) (fun c_68 => ?_)
                    · replace hm := rc_f hm c_68
                      refine lv_iconst (v := 0) hx hb dL_isBarrel_125 (by decide) ?_
                      exact rc_ezret hx hb hr hlocks hW hS (by omega) (by omega) rfl hm dL_isBarrel_126
                    · replace hm := rc_t hm c_68
                      refine lv_aload_n hx hb dL_isBarrel_112 rfl (lv_at hl 5 rfl) ?_
                      refine lv_iload_n hx hb dL_isBarrel_113 rfl (lv_at hl 6 rfl) ?_
                      obtain ⟨w_66, σ_66, hc_66, hm0⟩ := rc_bd_inv hm
                      clear hm
                      refine rc_ci hS (vx_runSW (As := [.ref a0, .int u1]) (rest := []) ⟨hx, hb, hml, hown, hts⟩ (k_L_line l hl9 hT z a0 u1 h0 H.size _ _ _ hc_66) (vx_cwSW 2 hts (rc_gS tw_6_175 tw_6_176 tw_1_0 tw_6_177) rfl rfl rfl (by decide +kernel) ⟨Nat.le_of_ble_eq_true rfl, Nat.le_of_ble_eq_true rfl⟩) (rc_preSL hT hW hK hE hN hXz hS [.ref a0, .int u1]) rfl rfl hl.1 rfl (lv_room (Nat.le_of_ble_eq_true rfl)) dL_isBarrel_114 ⟨show 0 + 2 + 2 + 2 + 2 + 1 + 2 + 2 + 2 + 2 + 3 + 1 ≤ 42 from by omega, show 0 + 12 + 12 + 12 + 12 + 6 + 12 + 12 + 12 + 12 + 18 + 6 ≤ 252 from by omega⟩) (fun H locs hW hS => ?_)
                      have hm := hm0
                      clear hm0 hc_66
                      refine lv_iconst (v := 3) hx hb dL_isBarrel_117 (by decide) ?_
                      refine lv_icmp_ne (tgt := 125) hx hb dL_isBarrel_118 (by decide) (fun c_67 => ?_) (fun c_67 => ?_)
                      · replace hm := rc_f hm c_67
                        refine lv_iconst (v := 0) hx hb dL_isBarrel_125 (by decide) ?_
                        exact rc_ezret hx hb hr hlocks hW hS (by omega) (by omega) rfl hm dL_isBarrel_126
                      · replace hm := rc_t hm c_67
                        refine lv_iconst (v := 1) hx hb dL_isBarrel_121 (by decide) ?_
                        refine lv_goto (tgt := 126) hx hb dL_isBarrel_122 (by decide) ?_
                        exact rc_ezret hx hb hr hlocks hW hS (by omega) (by omega) rfl hm dL_isBarrel_126
