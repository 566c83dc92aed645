def g_X4_init : rl_L := rl_i (rl_i (rl_i (rl_0 5) 0 0 0) 0 1 0) 0 2 0
set_option maxHeartbeats 8000000 in
set_option maxRecDepth 100000 in
theorem kc_X4_init (l : Launch) {Y : rc_Y} (ω : rc_O) (x : Nat) (hx0 : Y.1 ≤ x) : Met l yX4_init (Cond.code yX4_init cX4_init 1 none :: rc_big) ({ frames := 1, cells := 0, slots := 0, locals := 12 } : Room) (rl_P Y ω x 5 [.ref x]) (va_Qv (fun _ : Unit => True) (rl_B Y ω x g_X4_init 1) (fun q => x ≤ q)) 0 0 (fun q => x ≤ q) := by
  refine Met.ofW (cc := cX4_init) (maxL := 1) (ret := none) (by decide +kernel) rfl ?_
  intro p e s m args below meth c s₁ B hml hv
  obtain ⟨rfl, hz, hV, hK, hE, hA⟩ := hv
  have hx := B.exec
  have hb := B.bytes
  have hr := B.returns
  have hts : ∀ w ∈ rc_big, w.before _ s = true := fun w h => atoms_spec (ws := Cond.code yX4_init cX4_init 1 none :: rc_big) B.pre w (List.mem_cons_of_mem _ h)
  have hown : s.vm.findClass RX4 = some m.cls := findClass_of_methodNamed B.named
  have hin : meth.name = "<init>" := (name_of_methodNamed B.named B.method).1
  have hlocks := B.notSynchronized
  clear B
  have hS : va_S (fun q => x ≤ q) s.heap s.heap [] := va_S.rf
  have hl := lv_entry ([.ref x]) (n := 1) (Nat.le_of_ble_eq_true rfl)
  rw [lg_entry_eq]
  generalize (lg_sl ([.ref x]) ++ List.replicate (1 - (lg_sl ([.ref x])).length) Slot.unset).toArray = ls at hl ⊢
  have hl : lv_has ls 1 [(0, .ref x)] := hl
  refine lv_aload_n hx hb dX4_init_0 rfl (lv_at hl 0 rfl) ?_
  refine W.objInit hx hb hown (hts _ tw_1_123) (hts _ tw_1_40) (hts _ tw_1_41) rfl (by rw [hml]; exact hl.1) rfl dX4_init_1 (Nat.le_of_ble_eq_true rfl) (Nat.le_of_ble_eq_true rfl) ?_
  refine W.eq (g2 := F0 m 4 ls []) rfl ?_
  refine lv_aload_n hx hb dX4_init_4 rfl (lv_at hl 0 rfl) ?_
  refine lv_iconst (v := 0) hx hb dX4_init_5 (by decide) ?_
  refine pi_5_0 (j := 0) hx hb hts hown hK hV hz hS (by decide +kernel) tw_1_124 dX4_init_6 (fun H locs hV hz hS => ?_)
  refine lv_aload_n hx hb dX4_init_9 rfl (lv_at hl 0 rfl) ?_
  refine lv_iconst (v := 0) hx hb dX4_init_10 (by decide) ?_
  refine pi_5_1 (j := 0) hx hb hts hown hK hV hz hS (by decide +kernel) tw_1_127 dX4_init_11 (fun H locs hV hz hS => ?_)
  refine lv_aload_n hx hb dX4_init_14 rfl (lv_at hl 0 rfl) ?_
  refine lv_iconst (v := 0) hx hb dX4_init_15 (by decide) ?_
  refine pi_5_2 (j := 0) hx hb hts hown hK hV hz hS (by decide +kernel) tw_1_130 dX4_init_16 (fun H locs hV hz hS => ?_)
  exact rl_vret (M := g_X4_init) (N := 1) (mc := 0) (ms := 0) hx hb hr hlocks hV hz hS dX4_init_19
def g_X0_init : rl_L := rl_i (rl_i (rl_i (rl_i (rl_i (rl_i (rl_0 1) 0 0 0) 0 1 0) 0 2 0) 0 3 (-1)) 0 4 0) 0 5 0
set_option maxHeartbeats 8000000 in
set_option maxRecDepth 100000 in
theorem kc_X0_init (l : Launch) {Y : rc_Y} (ω : rc_O) (x : Nat) (hx0 : Y.1 ≤ x) : Met l yX0_init (Cond.code yX0_init cX0_init 1 none :: rc_big) ({ frames := 1, cells := 0, slots := 0, locals := 12 } : Room) (rl_P Y ω x 1 [.ref x]) (va_Qv (fun _ : Unit => True) (rl_B Y ω x g_X0_init 1) (fun q => x ≤ q)) 0 0 (fun q => x ≤ q) := by
  refine Met.ofW (cc := cX0_init) (maxL := 1) (ret := none) (by decide +kernel) rfl ?_
  intro p e s m args below meth c s₁ B hml hv
  obtain ⟨rfl, hz, hV, hK, hE, hA⟩ := hv
  have hx := B.exec
  have hb := B.bytes
  have hr := B.returns
  have hts : ∀ w ∈ rc_big, w.before _ s = true := fun w h => atoms_spec (ws := Cond.code yX0_init cX0_init 1 none :: rc_big) B.pre w (List.mem_cons_of_mem _ h)
  have hown : s.vm.findClass RX0 = some m.cls := findClass_of_methodNamed B.named
  have hin : meth.name = "<init>" := (name_of_methodNamed B.named B.method).1
  have hlocks := B.notSynchronized
  clear B
  have hS : va_S (fun q => x ≤ q) s.heap s.heap [] := va_S.rf
  have hl := lv_entry ([.ref x]) (n := 1) (Nat.le_of_ble_eq_true rfl)
  rw [lg_entry_eq]
  generalize (lg_sl ([.ref x]) ++ List.replicate (1 - (lg_sl ([.ref x])).length) Slot.unset).toArray = ls at hl ⊢
  have hl : lv_has ls 1 [(0, .ref x)] := hl
  refine lv_aload_n hx hb dX0_init_0 rfl (lv_at hl 0 rfl) ?_
  refine W.objInit hx hb hown (hts _ tw_1_84) (hts _ tw_1_40) (hts _ tw_1_41) rfl (by rw [hml]; exact hl.1) rfl dX0_init_1 (Nat.le_of_ble_eq_true rfl) (Nat.le_of_ble_eq_true rfl) ?_
  refine W.eq (g2 := F0 m 4 ls []) rfl ?_
  refine lv_aload_n hx hb dX0_init_4 rfl (lv_at hl 0 rfl) ?_
  refine lv_iconst (v := 0) hx hb dX0_init_5 (by decide) ?_
  refine pi_1_0 (j := 0) hx hb hts hown hK hV hz hS (by decide +kernel) tw_1_85 dX0_init_6 (fun H locs hV hz hS => ?_)
  refine lv_aload_n hx hb dX0_init_9 rfl (lv_at hl 0 rfl) ?_
  refine lv_iconst (v := 0) hx hb dX0_init_10 (by decide) ?_
  refine pi_1_1 (j := 0) hx hb hts hown hK hV hz hS (by decide +kernel) tw_1_89 dX0_init_11 (fun H locs hV hz hS => ?_)
  refine lv_aload_n hx hb dX0_init_14 rfl (lv_at hl 0 rfl) ?_
  refine lv_iconst (v := 0) hx hb dX0_init_15 (by decide) ?_
  refine pi_1_2 (j := 0) hx hb hts hown hK hV hz hS (by decide +kernel) tw_1_93 dX0_init_16 (fun H locs hV hz hS => ?_)
  refine lv_aload_n hx hb dX0_init_19 rfl (lv_at hl 0 rfl) ?_
  refine lv_iconst (v := (-1)) hx hb dX0_init_20 (by decide) ?_
  refine pi_1_3 (j := 0) hx hb hts hown hK hV hz hS (by decide +kernel) tw_1_97 dX0_init_21 (fun H locs hV hz hS => ?_)
  refine lv_aload_n hx hb dX0_init_24 rfl (lv_at hl 0 rfl) ?_
  refine lv_iconst (v := 0) hx hb dX0_init_25 (by decide) ?_
  refine pi_1_4 (j := 0) hx hb hts hown hK hV hz hS (by decide +kernel) tw_1_101 dX0_init_26 (fun H locs hV hz hS => ?_)
  refine lv_aload_n hx hb dX0_init_29 rfl (lv_at hl 0 rfl) ?_
  refine lv_iconst (v := 0) hx hb dX0_init_30 (by decide) ?_
  refine pi_1_5 (j := 0) hx hb hts hown hK hV hz hS (by decide +kernel) tw_1_103 dX0_init_31 (fun H locs hV hz hS => ?_)
  exact rl_vret (M := g_X0_init) (N := 1) (mc := 0) (ms := 0) hx hb hr hlocks hV hz hS dX0_init_34
def g_X5_init : rl_L := rl_i (rl_i (rl_i (rl_0 6) 0 0 0) 0 1 0) 0 2 0
set_option maxHeartbeats 8000000 in
set_option maxRecDepth 100000 in
theorem kc_X5_init (l : Launch) {Y : rc_Y} (ω : rc_O) (x : Nat) (hx0 : Y.1 ≤ x) : Met l yX5_init (Cond.code yX5_init cX5_init 1 none :: rc_big) ({ frames := 1, cells := 0, slots := 0, locals := 12 } : Room) (rl_P Y ω x 6 [.ref x]) (va_Qv (fun _ : Unit => True) (rl_B Y ω x g_X5_init 1) (fun q => x ≤ q)) 0 0 (fun q => x ≤ q) := by
  refine Met.ofW (cc := cX5_init) (maxL := 1) (ret := none) (by decide +kernel) rfl ?_
  intro p e s m args below meth c s₁ B hml hv
  obtain ⟨rfl, hz, hV, hK, hE, hA⟩ := hv
  have hx := B.exec
  have hb := B.bytes
  have hr := B.returns
  have hts : ∀ w ∈ rc_big, w.before _ s = true := fun w h => atoms_spec (ws := Cond.code yX5_init cX5_init 1 none :: rc_big) B.pre w (List.mem_cons_of_mem _ h)
  have hown : s.vm.findClass RX5 = some m.cls := findClass_of_methodNamed B.named
  have hin : meth.name = "<init>" := (name_of_methodNamed B.named B.method).1
  have hlocks := B.notSynchronized
  clear B
  have hS : va_S (fun q => x ≤ q) s.heap s.heap [] := va_S.rf
  have hl := lv_entry ([.ref x]) (n := 1) (Nat.le_of_ble_eq_true rfl)
  rw [lg_entry_eq]
  generalize (lg_sl ([.ref x]) ++ List.replicate (1 - (lg_sl ([.ref x])).length) Slot.unset).toArray = ls at hl ⊢
  have hl : lv_has ls 1 [(0, .ref x)] := hl
  refine lv_aload_n hx hb dX5_init_0 rfl (lv_at hl 0 rfl) ?_
  refine W.objInit hx hb hown (hts _ tw_1_214) (hts _ tw_1_40) (hts _ tw_1_41) rfl (by rw [hml]; exact hl.1) rfl dX5_init_1 (Nat.le_of_ble_eq_true rfl) (Nat.le_of_ble_eq_true rfl) ?_
  refine W.eq (g2 := F0 m 4 ls []) rfl ?_
  refine lv_aload_n hx hb dX5_init_4 rfl (lv_at hl 0 rfl) ?_
  refine lv_iconst (v := 0) hx hb dX5_init_5 (by decide) ?_
  refine pi_6_0 (j := 0) hx hb hts hown hK hV hz hS (by decide +kernel) tw_1_215 dX5_init_6 (fun H locs hV hz hS => ?_)
  refine lv_aload_n hx hb dX5_init_9 rfl (lv_at hl 0 rfl) ?_
  refine lv_iconst (v := 0) hx hb dX5_init_10 (by decide) ?_
  refine pi_6_1 (j := 0) hx hb hts hown hK hV hz hS (by decide +kernel) tw_1_216 dX5_init_11 (fun H locs hV hz hS => ?_)
  refine lv_aload_n hx hb dX5_init_14 rfl (lv_at hl 0 rfl) ?_
  refine lv_iconst (v := 0) hx hb dX5_init_15 (by decide) ?_
  refine pi_6_2 (j := 0) hx hb hts hown hK hV hz hS (by decide +kernel) tw_1_217 dX5_init_16 (fun H locs hV hz hS => ?_)
  exact rl_vret (M := g_X5_init) (N := 1) (mc := 0) (ms := 0) hx hb hr hlocks hV hz hS dX5_init_19
def g_X3_init : rl_L := rl_i (rl_r (rl_n (rl_r (rl_n (rl_0 4) 1 20) 0 0 1) 2 21) 0 1 2) 0 2 0
set_option maxHeartbeats 8000000 in
set_option maxRecDepth 100000 in
theorem kc_X3_init (l : Launch) {Y : rc_Y} (ω : rc_O) (x : Nat) (hx0 : Y.1 ≤ x) : Met l yX3_init (Cond.code yX3_init cX3_init 1 none :: rc_big) ({ frames := 1, cells := 2, slots := 8, locals := 12 } : Room) (rl_P Y ω x 4 [.ref x]) (va_Qv (fun _ : Unit => True) (rl_B Y ω x g_X3_init 3) (fun q => x ≤ q)) 2 8 (fun q => x ≤ q) := by
  refine Met.ofW (cc := cX3_init) (maxL := 1) (ret := none) (by decide +kernel) rfl ?_
  intro p e s m args below meth c s₁ B hml hv
  obtain ⟨rfl, hz, hV, hK, hE, hA⟩ := hv
  have hx := B.exec
  have hb := B.bytes
  have hr := B.returns
  have hts : ∀ w ∈ rc_big, w.before _ s = true := fun w h => atoms_spec (ws := Cond.code yX3_init cX3_init 1 none :: rc_big) B.pre w (List.mem_cons_of_mem _ h)
  have hown : s.vm.findClass RX3 = some m.cls := findClass_of_methodNamed B.named
  have hin : meth.name = "<init>" := (name_of_methodNamed B.named B.method).1
  have hlocks := B.notSynchronized
  clear B
  have hS : va_S (fun q => x ≤ q) s.heap s.heap [] := va_S.rf
  have hl := lv_entry ([.ref x]) (n := 1) (Nat.le_of_ble_eq_true rfl)
  rw [lg_entry_eq]
  generalize (lg_sl ([.ref x]) ++ List.replicate (1 - (lg_sl ([.ref x])).length) Slot.unset).toArray = ls at hl ⊢
  have hl : lv_has ls 1 [(0, .ref x)] := hl
  refine lv_aload_n hx hb dX3_init_0 rfl (lv_at hl 0 rfl) ?_
  refine W.objInit hx hb hown (hts _ tw_1_61) (hts _ tw_1_40) (hts _ tw_1_41) rfl (by rw [hml]; exact hl.1) rfl dX3_init_1 (Nat.le_of_ble_eq_true rfl) (Nat.le_of_ble_eq_true rfl) ?_
  refine W.eq (g2 := F0 m 4 ls []) rfl ?_
  refine lv_aload_n hx hb dX3_init_4 rfl (lv_at hl 0 rfl) ?_
  refine lv_iconst (v := 4) hx hb dX3_init_5 (by decide) ?_
  refine rl_newa hx hb (atype := .int) (hts _ tw_1_76) (ty := .int) rfl hK hV hz hS 0 rfl (fun _ h => nomatch h) 20 (N' := 4) rfl rfl (by decide) (by decide) (by decide) (Nat.le_of_ble_eq_true rfl) (Nat.le_of_ble_eq_true rfl) dX3_init_6 (fun H hV hz hS => ?_)
  refine pr_4_0 (j := 0) (o := 1) hx hb hts hown hK hV hz hS hin (by decide) (by decide +kernel) tw_1_62 dX3_init_8 (fun H locs hV hz hS => ?_)
  refine lv_aload_n hx hb dX3_init_11 rfl (lv_at hl 0 rfl) ?_
  refine lv_iconst (v := 4) hx hb dX3_init_12 (by decide) ?_
  refine rl_newa hx hb (atype := .boolean) (hts _ tw_1_77) (ty := .boolean) rfl hK hV hz hS 2 rfl (fun _ h => nomatch h) 21 (N' := 4) rfl rfl (by decide) (by decide) (by decide) (Nat.le_of_ble_eq_true rfl) (Nat.le_of_ble_eq_true rfl) dX3_init_13 (fun H hV hz hS => ?_)
  refine pr_4_1 (j := 0) (o := 2) hx hb hts hown hK hV hz hS hin (by decide) (by decide +kernel) tw_1_64 dX3_init_15 (fun H locs hV hz hS => ?_)
  refine lv_aload_n hx hb dX3_init_18 rfl (lv_at hl 0 rfl) ?_
  refine lv_iconst (v := 0) hx hb dX3_init_19 (by decide) ?_
  refine pi_4_2 (j := 0) hx hb hts hown hK hV hz hS (by decide +kernel) tw_1_66 dX3_init_20 (fun H locs hV hz hS => ?_)
  exact rl_vret (M := g_X3_init) (N := 3) (mc := 2) (ms := 8) hx hb hr hlocks hV hz hS dX3_init_23
def g_X6_init : rl_L := rl_i (rl_i (rl_i (rl_r (rl_n (rl_r (rl_n (rl_i (rl_r (rl_n (rl_0 7) 1 22) 0 0 1) 0 1 0) 2 22) 0 2 2) 3 23) 0 3 3) 0 4 0) 0 5 0) 0 6 0
set_option maxHeartbeats 8000000 in
set_option maxRecDepth 100000 in
theorem kc_X6_init (l : Launch) {Y : rc_Y} (ω : rc_O) (x : Nat) (hx0 : Y.1 ≤ x) : Met l yX6_init (Cond.code yX6_init cX6_init 1 none :: rc_big) ({ frames := 1, cells := 3, slots := 300, locals := 12 } : Room) (rl_P Y ω x 7 [.ref x]) (va_Qv (fun _ : Unit => True) (rl_B Y ω x g_X6_init 4) (fun q => x ≤ q)) 3 300 (fun q => x ≤ q) := by
  refine Met.ofW (cc := cX6_init) (maxL := 1) (ret := none) (by decide +kernel) rfl ?_
  intro p e s m args below meth c s₁ B hml hv
  obtain ⟨rfl, hz, hV, hK, hE, hA⟩ := hv
  have hx := B.exec
  have hb := B.bytes
  have hr := B.returns
  have hts : ∀ w ∈ rc_big, w.before _ s = true := fun w h => atoms_spec (ws := Cond.code yX6_init cX6_init 1 none :: rc_big) B.pre w (List.mem_cons_of_mem _ h)
  have hown : s.vm.findClass RX6 = some m.cls := findClass_of_methodNamed B.named
  have hin : meth.name = "<init>" := (name_of_methodNamed B.named B.method).1
  have hlocks := B.notSynchronized
  clear B
  have hS : va_S (fun q => x ≤ q) s.heap s.heap [] := va_S.rf
  have hl := lv_entry ([.ref x]) (n := 1) (Nat.le_of_ble_eq_true rfl)
  rw [lg_entry_eq]
  generalize (lg_sl ([.ref x]) ++ List.replicate (1 - (lg_sl ([.ref x])).length) Slot.unset).toArray = ls at hl ⊢
  have hl : lv_has ls 1 [(0, .ref x)] := hl
  refine lv_aload_n hx hb dX6_init_0 rfl (lv_at hl 0 rfl) ?_
  refine W.objInit hx hb hown (hts _ tw_2_22) (hts _ tw_1_40) (hts _ tw_1_41) rfl (by rw [hml]; exact hl.1) rfl dX6_init_1 (Nat.le_of_ble_eq_true rfl) (Nat.le_of_ble_eq_true rfl) ?_
  refine W.eq (g2 := F0 m 4 ls []) rfl ?_
  refine lv_aload_n hx hb dX6_init_4 rfl (lv_at hl 0 rfl) ?_
  refine lv_bipush (v := 60) hx hb dX6_init_5 (by decide) ?_
  refine rl_newa hx hb (atype := .char) (hts _ tw_2_48) (ty := .char) rfl hK hV hz hS 1 rfl (fun _ h => nomatch h) 22 (N' := 60) rfl rfl (by decide) (by decide) (by decide) (Nat.le_of_ble_eq_true rfl) (Nat.le_of_ble_eq_true rfl) dX6_init_7 (fun H hV hz hS => ?_)
  refine pr_7_0 (j := 0) (o := 1) hx hb hts hown hK hV hz hS hin (by decide) (by decide +kernel) tw_2_23 dX6_init_9 (fun H locs hV hz hS => ?_)
  refine lv_aload_n hx hb dX6_init_12 rfl (lv_at hl 0 rfl) ?_
  refine lv_iconst (v := 0) hx hb dX6_init_13 (by decide) ?_
  refine pi_7_1 (j := 0) hx hb hts hown hK hV hz hS (by decide +kernel) tw_2_24 dX6_init_14 (fun H locs hV hz hS => ?_)
  refine lv_aload_n hx hb dX6_init_17 rfl (lv_at hl 0 rfl) ?_
  refine lv_bipush (v := 60) hx hb dX6_init_18 (by decide) ?_
  refine rl_newa hx hb (atype := .char) (hts _ tw_2_48) (ty := .char) rfl hK hV hz hS 1 rfl (fun _ h => nomatch h) 22 (N' := 60) rfl rfl (by decide) (by decide) (by decide) (Nat.le_of_ble_eq_true rfl) (Nat.le_of_ble_eq_true rfl) dX6_init_20 (fun H hV hz hS => ?_)
  refine pr_7_2 (j := 0) (o := 2) hx hb hts hown hK hV hz hS hin (by decide) (by decide +kernel) tw_2_26 dX6_init_22 (fun H locs hV hz hS => ?_)
  refine lv_aload_n hx hb dX6_init_25 rfl (lv_at hl 0 rfl) ?_
  refine lv_sipush (v := 180) hx hb dX6_init_26 (by decide) ?_
  refine rl_newa hx hb (atype := .int) (hts _ tw_1_76) (ty := .int) rfl hK hV hz hS 0 rfl (fun _ h => nomatch h) 23 (N' := 180) rfl rfl (by decide) (by decide) (by decide) (Nat.le_of_ble_eq_true rfl) (Nat.le_of_ble_eq_true rfl) dX6_init_29 (fun H hV hz hS => ?_)
  refine pr_7_3 (j := 0) (o := 3) hx hb hts hown hK hV hz hS hin (by decide) (by decide +kernel) tw_2_28 dX6_init_31 (fun H locs hV hz hS => ?_)
  refine lv_aload_n hx hb dX6_init_34 rfl (lv_at hl 0 rfl) ?_
  refine lv_iconst (v := 0) hx hb dX6_init_35 (by decide) ?_
  refine pi_7_4 (j := 0) hx hb hts hown hK hV hz hS (by decide +kernel) tw_2_29 dX6_init_36 (fun H locs hV hz hS => ?_)
  refine lv_aload_n hx hb dX6_init_39 rfl (lv_at hl 0 rfl) ?_
  refine lv_iconst (v := 0) hx hb dX6_init_40 (by decide) ?_
  refine pi_7_5 (j := 0) hx hb hts hown hK hV hz hS (by decide +kernel) tw_2_31 dX6_init_41 (fun H locs hV hz hS => ?_)
  refine lv_aload_n hx hb dX6_init_44 rfl (lv_at hl 0 rfl) ?_
  refine lv_iconst (v := 0) hx hb dX6_init_45 (by decide) ?_
  refine pi_7_6 (j := 0) hx hb hts hown hK hV hz hS (by decide +kernel) tw_2_32 dX6_init_46 (fun H locs hV hz hS => ?_)
  exact rl_vret (M := g_X6_init) (N := 4) (mc := 3) (ms := 300) hx hb hr hlocks hV hz hS dX6_init_49
def g_X1_init : rl_L := rl_r (rl_c (rl_r (rl_c (rl_r (rl_c (rl_r (rl_c (rl_r (rl_c (rl_r (rl_c (rl_r (rl_c (rl_r (rl_c (rl_r (rl_c (rl_r (rl_c (rl_r (rl_c (rl_r (rl_c (rl_r (rl_c (rl_r (rl_c (rl_r (rl_c (rl_r (rl_c (rl_r (rl_c (rl_r (rl_c (rl_r (rl_c (rl_r (rl_c (rl_i (rl_i (rl_i (rl_i (rl_i (rl_i (rl_i (rl_i (rl_i (rl_i (rl_i (rl_i (rl_i (rl_r (rl_n (rl_r (rl_c (rl_i (rl_r (rl_n (rl_r (rl_n (rl_0 2) 1 20) 0 0 1) 2 25) 0 1 2) 0 2 0) 3 g_X3_init) 0 3 3) 6 27) 0 4 6) 0 5 0) 0 6 0) 0 7 0) 0 8 0) 0 9 0) 0 10 0) 0 11 0) 0 12 0) 0 13 0) 1 0 3) 1 1 3) 1 2 3) 1 3 3) 7 g_X0_init) 2 0 7) 8 g_X0_init) 2 1 8) 9 g_X0_init) 2 2 9) 10 g_X0_init) 2 3 10) 11 g_X0_init) 2 4 11) 12 g_X0_init) 2 5 12) 13 g_X0_init) 2 6 13) 14 g_X0_init) 2 7 14) 15 g_X4_init) 6 0 15) 16 g_X4_init) 6 1 16) 17 g_X4_init) 6 2 17) 18 g_X4_init) 6 3 18) 19 g_X4_init) 6 4 19) 20 g_X4_init) 6 5 20) 21 g_X4_init) 6 6 21) 22 g_X4_init) 6 7 22) 23 g_X4_init) 6 8 23) 24 g_X4_init) 6 9 24) 25 g_X4_init) 6 10 25) 26 g_X4_init) 6 11 26
set_option maxHeartbeats 8000000 in
set_option maxRecDepth 100000 in
theorem kc_X1_init (l : Launch) {Y : rc_Y} (ω : rc_O) (x : Nat) (hx0 : Y.1 ≤ x) : Met l yX1_init (Cond.code yX1_init cX1_init 2 none :: rc_big) ({ frames := 2, cells := 26, slots := 119, locals := 32 } : Room) (rl_P Y ω x 2 [.ref x]) (va_Qv (fun _ : Unit => True) (rl_B Y ω x g_X1_init 27) (fun q => x ≤ q)) 26 119 (fun q => x ≤ q) := by
  refine Met.ofW (cc := cX1_init) (maxL := 2) (ret := none) (by decide +kernel) rfl ?_
  intro p e s m args below meth c s₁ B hml hv
  obtain ⟨rfl, hz, hV, hK, hE, hA⟩ := hv
  have hx := B.exec
  have hb := B.bytes
  have hr := B.returns
  have hts : ∀ w ∈ rc_big, w.before _ s = true := fun w h => atoms_spec (ws := Cond.code yX1_init cX1_init 2 none :: rc_big) B.pre w (List.mem_cons_of_mem _ h)
  have hown : s.vm.findClass RX1 = some m.cls := findClass_of_methodNamed B.named
  have hin : meth.name = "<init>" := (name_of_methodNamed B.named B.method).1
  have hlocks := B.notSynchronized
  clear B
  have hS : va_S (fun q => x ≤ q) s.heap s.heap [] := va_S.rf
  have hl := lv_entry ([.ref x]) (n := 2) (Nat.le_of_ble_eq_true rfl)
  rw [lg_entry_eq]
  generalize (lg_sl ([.ref x]) ++ List.replicate (2 - (lg_sl ([.ref x])).length) Slot.unset).toArray = ls at hl ⊢
  have hl : lv_has ls 2 [(0, .ref x)] := hl
  refine lv_aload_n hx hb dX1_init_0 rfl (lv_at hl 0 rfl) ?_
  refine W.objInit hx hb hown (hts _ tw_1_53) (hts _ tw_1_40) (hts _ tw_1_41) rfl (by rw [hml]; exact hl.1) rfl dX1_init_1 (Nat.le_of_ble_eq_true rfl) (Nat.le_of_ble_eq_true rfl) ?_
  refine W.eq (g2 := F0 m 4 ls []) rfl ?_
  refine lv_aload_n hx hb dX1_init_4 rfl (lv_at hl 0 rfl) ?_
  refine lv_iconst (v := 4) hx hb dX1_init_5 (by decide) ?_
  refine rl_newa hx hb (atype := .int) (hts _ tw_1_76) (ty := .int) rfl hK hV hz hS 0 rfl (fun _ h => nomatch h) 20 (N' := 4) rfl rfl (by decide) (by decide) (by decide) (Nat.le_of_ble_eq_true rfl) (Nat.le_of_ble_eq_true rfl) dX1_init_6 (fun H hV hz hS => ?_)
  refine pr_2_0 (j := 0) (o := 1) hx hb hts hown hK hV hz hS hin (by decide) (by decide +kernel) tw_1_140 dX1_init_8 (fun H locs hV hz hS => ?_)
  refine lv_aload_n hx hb dX1_init_11 rfl (lv_at hl 0 rfl) ?_
  refine lv_bipush (v := 8) hx hb dX1_init_12 (by decide) ?_
  refine rl_newq hx hb hown (hts _ tw_1_54) hA.1 hK hV hz hS 4 rfl 25 (N' := 8) rfl (by decide) (by decide) (by decide) (Nat.le_of_ble_eq_true rfl) (Nat.le_of_ble_eq_true rfl) dX1_init_14 (fun H hV hz hS => ?_)
  refine pr_2_1 (j := 0) (o := 2) hx hb hts hown hK hV hz hS hin (by decide) (by decide +kernel) tw_1_143 dX1_init_17 (fun H locs hV hz hS => ?_)
  refine lv_aload_n hx hb dX1_init_20 rfl (lv_at hl 0 rfl) ?_
  refine lv_iconst (v := 0) hx hb dX1_init_21 (by decide) ?_
  refine pi_2_2 (j := 0) hx hb hts hown hK hV hz hS (by decide +kernel) tw_1_146 dX1_init_22 (fun H locs hV hz hS => ?_)
  refine lv_aload_n hx hb dX1_init_25 rfl (lv_at hl 0 rfl) ?_
  refine pn_4 hx hb hts hown tw_1_56 tw_1_57 tw_1_4 hK hV hz hS (Nat.le_of_ble_eq_true rfl) (Nat.le_of_ble_eq_true rfl) dX1_init_26 (fun H hV hz hS => ?_)
  refine lv_dup hx hb dX1_init_29 rfl ?_
  refine rl_call (n := 3) (N := 3) (M := g_X3_init) (va_runIN (As := []) (rest := [.ref (x + 3), .ref x]) ⟨hx, hb, hml, hown, hts⟩ (kc_X3_init l (rl_o ω x _) (x + 3) (Nat.le_trans hx0 (Nat.le_add_right x 3))) ⟨va_cnB 0 hts (rc_gI tw_1_60) rfl rfl rfl (rc_E_nw hE _ nw_1_58) (hts _ tw_1_4) (by decide +kernel) ⟨Nat.le_of_ble_eq_true rfl, Nat.le_of_ble_eq_true rfl⟩, rfl, hts _ tw_1_59⟩ (rl_pre hx0 hK hE hA hV hz hS [.ref (x + 3)]) rfl rfl hl.1 rfl (lv_room (Nat.le_of_ble_eq_true rfl)) dX1_init_30 ⟨Nat.le_of_ble_eq_true rfl, Nat.le_of_ble_eq_true rfl⟩) (Nat.le_add_right x 3) hS (fun H locs hV hz hS => ?_)
  refine pr_2_3 (j := 0) (o := 3) hx hb hts hown hK hV hz hS hin (by decide) (by decide +kernel) tw_1_149 dX1_init_33 (fun H locs hV hz hS => ?_)
  refine lv_aload_n hx hb dX1_init_36 rfl (lv_at hl 0 rfl) ?_
  refine lv_bipush (v := 12) hx hb dX1_init_37 (by decide) ?_
  refine rl_newq hx hb hown (hts _ tw_1_78) hA.2.2 hK hV hz hS 6 rfl 27 (N' := 12) rfl (by decide) (by decide) (by decide) (Nat.le_of_ble_eq_true rfl) (Nat.le_of_ble_eq_true rfl) dX1_init_39 (fun H hV hz hS => ?_)
  refine pr_2_4 (j := 0) (o := 6) hx hb hts hown hK hV hz hS hin (by decide) (by decide +kernel) tw_1_152 dX1_init_42 (fun H locs hV hz hS => ?_)
  refine lv_aload_n hx hb dX1_init_45 rfl (lv_at hl 0 rfl) ?_
  refine lv_iconst (v := 0) hx hb dX1_init_46 (by decide) ?_
  refine pi_2_5 (j := 0) hx hb hts hown hK hV hz hS (by decide +kernel) tw_1_153 dX1_init_47 (fun H locs hV hz hS => ?_)
  refine lv_aload_n hx hb dX1_init_50 rfl (lv_at hl 0 rfl) ?_
  refine lv_iconst (v := 0) hx hb dX1_init_51 (by decide) ?_
  refine pi_2_6 (j := 0) hx hb hts hown hK hV hz hS (by decide +kernel) tw_1_156 dX1_init_52 (fun H locs hV hz hS => ?_)
  refine lv_aload_n hx hb dX1_init_55 rfl (lv_at hl 0 rfl) ?_
  refine lv_iconst (v := 0) hx hb dX1_init_56 (by decide) ?_
  refine pi_2_7 (j := 0) hx hb hts hown hK hV hz hS (by decide +kernel) tw_1_159 dX1_init_57 (fun H locs hV hz hS => ?_)
  refine lv_aload_n hx hb dX1_init_60 rfl (lv_at hl 0 rfl) ?_
  refine lv_iconst (v := 0) hx hb dX1_init_61 (by decide) ?_
  refine pi_2_8 (j := 0) hx hb hts hown hK hV hz hS (by decide +kernel) tw_1_162 dX1_init_62 (fun H locs hV hz hS => ?_)
  refine lv_aload_n hx hb dX1_init_65 rfl (lv_at hl 0 rfl) ?_
  refine lv_iconst (v := 0) hx hb dX1_init_66 (by decide) ?_
  refine pi_2_9 (j := 0) hx hb hts hown hK hV hz hS (by decide +kernel) tw_1_165 dX1_init_67 (fun H locs hV hz hS => ?_)
  refine lv_aload_n hx hb dX1_init_70 rfl (lv_at hl 0 rfl) ?_
  refine lv_iconst (v := 0) hx hb dX1_init_71 (by decide) ?_
  refine pi_2_10 (j := 0) hx hb hts hown hK hV hz hS (by decide +kernel) tw_1_168 dX1_init_72 (fun H locs hV hz hS => ?_)
  refine lv_aload_n hx hb dX1_init_75 rfl (lv_at hl 0 rfl) ?_
  refine lv_iconst (v := 0) hx hb dX1_init_76 (by decide) ?_
  refine pi_2_11 (j := 0) hx hb hts hown hK hV hz hS (by decide +kernel) tw_1_171 dX1_init_77 (fun H locs hV hz hS => ?_)
  refine lv_aload_n hx hb dX1_init_80 rfl (lv_at hl 0 rfl) ?_
  refine lv_iconst (v := 0) hx hb dX1_init_81 (by decide) ?_
  refine pi_2_12 (j := 0) hx hb hts hown hK hV hz hS (by decide +kernel) tw_1_174 dX1_init_82 (fun H locs hV hz hS => ?_)
  refine lv_aload_n hx hb dX1_init_85 rfl (lv_at hl 0 rfl) ?_
  refine lv_iconst (v := 0) hx hb dX1_init_86 (by decide) ?_
  refine pi_2_13 (j := 0) hx hb hts hown hK hV hz hS (by decide +kernel) tw_1_177 dX1_init_87 (fun H locs hV hz hS => ?_)
  refine lv_iconst (v := 0) hx hb dX1_init_90 (by decide) ?_
  refine lv_istore_n (lv' := [(1, .int (0 : Int32)), (0, .ref x)]) hx hb dX1_init_91 rfl hl (by decide) rfl (fun ls hl => ?_)
  refine lv_iload_n hx hb dX1_init_92 rfl (lv_at hl 0 rfl) ?_
  refine lv_iconst (v := 4) hx hb dX1_init_93 (by decide) ?_
  refine lv_icmp_ge (tgt := 110) hx hb dX1_init_94 (by decide) (fun c9 => absurd c9 (by decide)) (fun _ => ?_)
  refine lv_aload_n hx hb dX1_init_97 rfl (lv_at hl 1 rfl) ?_
  refine pg_2_0 (j := 0) (o := 1) hx hb hts hown hK hV (by decide) (by decide +kernel) (by decide +kernel) tw_1_140 dX1_init_98 ?_
  refine lv_iload_n hx hb dX1_init_101 rfl (lv_at hl 0 rfl) ?_
  refine lv_iconst (v := 3) hx hb dX1_init_102 (by decide) ?_
  refine rl_iast (j := 1) (t := 20) (n' := 4) (k := 0) hx hb hK hV hz hS (by decide +kernel) (by decide) (fun _ _ => rfl) (rc_inD (by decide)) (by decide) dX1_init_103 (fun H locs hV hz hS => ?_)
  refine lv_iinc (v := (1 : Int32)) (lv' := [(1, .int (1 : Int32)), (0, .ref x)]) hx hb dX1_init_104 hl (k := 0) rfl (by decide) (by decide) rfl (fun ls hl => ?_)
  refine lv_goto (tgt := 92) hx hb dX1_init_107 (by decide) ?_
  refine lv_iload_n hx hb dX1_init_92 rfl (lv_at hl 0 rfl) ?_
  refine lv_iconst (v := 4) hx hb dX1_init_93 (by decide) ?_
  refine lv_icmp_ge (tgt := 110) hx hb dX1_init_94 (by decide) (fun c9 => absurd c9 (by decide)) (fun _ => ?_)
  refine lv_aload_n hx hb dX1_init_97 rfl (lv_at hl 1 rfl) ?_
  refine pg_2_0 (j := 0) (o := 1) hx hb hts hown hK hV (by decide) (by decide +kernel) (by decide +kernel) tw_1_140 dX1_init_98 ?_
  refine lv_iload_n hx hb dX1_init_101 rfl (lv_at hl 0 rfl) ?_
  refine lv_iconst (v := 3) hx hb dX1_init_102 (by decide) ?_
  refine rl_iast (j := 1) (t := 20) (n' := 4) (k := 1) hx hb hK hV hz hS (by decide +kernel) (by decide) (fun _ _ => rfl) (rc_inD (by decide)) (by decide) dX1_init_103 (fun H locs hV hz hS => ?_)
  refine lv_iinc (v := (2 : Int32)) (lv' := [(1, .int (2 : Int32)), (0, .ref x)]) hx hb dX1_init_104 hl (k := 0) rfl (by decide) (by decide) rfl (fun ls hl => ?_)
  refine lv_goto (tgt := 92) hx hb dX1_init_107 (by decide) ?_
  refine lv_iload_n hx hb dX1_init_92 rfl (lv_at hl 0 rfl) ?_
  refine lv_iconst (v := 4) hx hb dX1_init_93 (by decide) ?_
  refine lv_icmp_ge (tgt := 110) hx hb dX1_init_94 (by decide) (fun c9 => absurd c9 (by decide)) (fun _ => ?_)
  refine lv_aload_n hx hb dX1_init_97 rfl (lv_at hl 1 rfl) ?_
  refine pg_2_0 (j := 0) (o := 1) hx hb hts hown hK hV (by decide) (by decide +kernel) (by decide +kernel) tw_1_140 dX1_init_98 ?_
  refine lv_iload_n hx hb dX1_init_101 rfl (lv_at hl 0 rfl) ?_
  refine lv_iconst (v := 3) hx hb dX1_init_102 (by decide) ?_
  refine rl_iast (j := 1) (t := 20) (n' := 4) (k := 2) hx hb hK hV hz hS (by decide +kernel) (by decide) (fun _ _ => rfl) (rc_inD (by decide)) (by decide) dX1_init_103 (fun H locs hV hz hS => ?_)
  refine lv_iinc (v := (3 : Int32)) (lv' := [(1, .int (3 : Int32)), (0, .ref x)]) hx hb dX1_init_104 hl (k := 0) rfl (by decide) (by decide) rfl (fun ls hl => ?_)
  refine lv_goto (tgt := 92) hx hb dX1_init_107 (by decide) ?_
  refine lv_iload_n hx hb dX1_init_92 rfl (lv_at hl 0 rfl) ?_
  refine lv_iconst (v := 4) hx hb dX1_init_93 (by decide) ?_
  refine lv_icmp_ge (tgt := 110) hx hb dX1_init_94 (by decide) (fun c9 => absurd c9 (by decide)) (fun _ => ?_)
  refine lv_aload_n hx hb dX1_init_97 rfl (lv_at hl 1 rfl) ?_
  refine pg_2_0 (j := 0) (o := 1) hx hb hts hown hK hV (by decide) (by decide +kernel) (by decide +kernel) tw_1_140 dX1_init_98 ?_
  refine lv_iload_n hx hb dX1_init_101 rfl (lv_at hl 0 rfl) ?_
  refine lv_iconst (v := 3) hx hb dX1_init_102 (by decide) ?_
  refine rl_iast (j := 1) (t := 20) (n' := 4) (k := 3) hx hb hK hV hz hS (by decide +kernel) (by decide) (fun _ _ => rfl) (rc_inD (by decide)) (by decide) dX1_init_103 (fun H locs hV hz hS => ?_)
  refine lv_iinc (v := (4 : Int32)) (lv' := [(1, .int (4 : Int32)), (0, .ref x)]) hx hb dX1_init_104 hl (k := 0) rfl (by decide) (by decide) rfl (fun ls hl => ?_)
  refine lv_goto (tgt := 92) hx hb dX1_init_107 (by decide) ?_
  refine lv_iload_n hx hb dX1_init_92 rfl (lv_at hl 0 rfl) ?_
  refine lv_iconst (v := 4) hx hb dX1_init_93 (by decide) ?_
  refine lv_icmp_ge (tgt := 110) hx hb dX1_init_94 (by decide) (fun _ => ?_) (fun c9 => absurd c9 (by decide))
  refine lv_iconst (v := 0) hx hb dX1_init_110 (by decide) ?_
  refine lv_istore_n (lv' := [(1, .int (0 : Int32)), (0, .ref x)]) hx hb dX1_init_111 rfl hl (by decide) rfl (fun ls hl => ?_)
  refine lv_iload_n hx hb dX1_init_112 rfl (lv_at hl 0 rfl) ?_
  refine lv_bipush (v := 8) hx hb dX1_init_113 (by decide) ?_
  refine lv_icmp_ge (tgt := 137) hx hb dX1_init_115 (by decide) (fun c9 => absurd c9 (by decide)) (fun _ => ?_)
  refine lv_aload_n hx hb dX1_init_118 rfl (lv_at hl 1 rfl) ?_
  refine pg_2_1 (j := 0) (o := 2) hx hb hts hown hK hV (by decide) (by decide +kernel) (by decide +kernel) tw_1_143 dX1_init_119 ?_
  refine lv_iload_n hx hb dX1_init_122 rfl (lv_at hl 0 rfl) ?_
  refine pn_1 hx hb hts hown tw_1_54 tw_1_80 tw_1_5 hK hV hz hS (Nat.le_of_ble_eq_true rfl) (Nat.le_of_ble_eq_true rfl) dX1_init_123 (fun H hV hz hS => ?_)
  refine lv_dup hx hb dX1_init_126 rfl ?_
  refine rl_call (n := 7) (N := 1) (M := g_X0_init) (va_runIN (As := []) (rest := [.ref (x + 7), .int (0 : Int32), .ref (x + 2)]) ⟨hx, hb, hml, hown, hts⟩ (kc_X0_init l (rl_o ω x _) (x + 7) (Nat.le_trans hx0 (Nat.le_add_right x 7))) ⟨va_cnB 0 hts (rc_gI tw_1_83) rfl rfl rfl (rc_E_nw hE _ nw_1_81) (hts _ tw_1_5) (by decide +kernel) ⟨Nat.le_of_ble_eq_true rfl, Nat.le_of_ble_eq_true rfl⟩, rfl, hts _ tw_1_82⟩ (rl_pre hx0 hK hE hA hV hz hS [.ref (x + 7)]) rfl rfl hl.1 rfl (lv_room (Nat.le_of_ble_eq_true rfl)) dX1_init_127 ⟨Nat.le_of_ble_eq_true rfl, Nat.le_of_ble_eq_true rfl⟩) (Nat.le_add_right x 7) hS (fun H locs hV hz hS => ?_)
  refine rl_aast (j := 2) (t := 25) (n' := 8) (r := (RX0, TX0, 6)) hx hb hK hV hz hS (by decide +kernel) (by decide) (fun _ _ => rfl) 4 rfl (o := 7) (tv := 1) (ci := 4) (k := 0) (by decide) (by decide +kernel) (by decide) rfl rfl (rc_inD (by decide)) (by decide) dX1_init_130 (fun H locs hV hz hS => ?_)
  refine lv_iinc (v := (1 : Int32)) (lv' := [(1, .int (1 : Int32)), (0, .ref x)]) hx hb dX1_init_131 hl (k := 0) rfl (by decide) (by decide) rfl (fun ls hl => ?_)
  refine lv_goto (tgt := 112) hx hb dX1_init_134 (by decide) ?_
  refine lv_iload_n hx hb dX1_init_112 rfl (lv_at hl 0 rfl) ?_
  refine lv_bipush (v := 8) hx hb dX1_init_113 (by decide) ?_
  refine lv_icmp_ge (tgt := 137) hx hb dX1_init_115 (by decide) (fun c9 => absurd c9 (by decide)) (fun _ => ?_)
  refine lv_aload_n hx hb dX1_init_118 rfl (lv_at hl 1 rfl) ?_
  refine pg_2_1 (j := 0) (o := 2) hx hb hts hown hK hV (by decide) (by decide +kernel) (by decide +kernel) tw_1_143 dX1_init_119 ?_
  refine lv_iload_n hx hb dX1_init_122 rfl (lv_at hl 0 rfl) ?_
  refine pn_1 hx hb hts hown tw_1_54 tw_1_80 tw_1_5 hK hV hz hS (Nat.le_of_ble_eq_true rfl) (Nat.le_of_ble_eq_true rfl) dX1_init_123 (fun H hV hz hS => ?_)
  refine lv_dup hx hb dX1_init_126 rfl ?_
  refine rl_call (n := 8) (N := 1) (M := g_X0_init) (va_runIN (As := []) (rest := [.ref (x + 8), .int (1 : Int32), .ref (x + 2)]) ⟨hx, hb, hml, hown, hts⟩ (kc_X0_init l (rl_o ω x _) (x + 8) (Nat.le_trans hx0 (Nat.le_add_right x 8))) ⟨va_cnB 0 hts (rc_gI tw_1_83) rfl rfl rfl (rc_E_nw hE _ nw_1_81) (hts _ tw_1_5) (by decide +kernel) ⟨Nat.le_of_ble_eq_true rfl, Nat.le_of_ble_eq_true rfl⟩, rfl, hts _ tw_1_82⟩ (rl_pre hx0 hK hE hA hV hz hS [.ref (x + 8)]) rfl rfl hl.1 rfl (lv_room (Nat.le_of_ble_eq_true rfl)) dX1_init_127 ⟨Nat.le_of_ble_eq_true rfl, Nat.le_of_ble_eq_true rfl⟩) (Nat.le_add_right x 8) hS (fun H locs hV hz hS => ?_)
  refine rl_aast (j := 2) (t := 25) (n' := 8) (r := (RX0, TX0, 6)) hx hb hK hV hz hS (by decide +kernel) (by decide) (fun _ _ => rfl) 4 rfl (o := 8) (tv := 1) (ci := 4) (k := 1) (by decide) (by decide +kernel) (by decide) rfl rfl (rc_inD (by decide)) (by decide) dX1_init_130 (fun H locs hV hz hS => ?_)
  refine lv_iinc (v := (2 : Int32)) (lv' := [(1, .int (2 : Int32)), (0, .ref x)]) hx hb dX1_init_131 hl (k := 0) rfl (by decide) (by decide) rfl (fun ls hl => ?_)
  refine lv_goto (tgt := 112) hx hb dX1_init_134 (by decide) ?_
  refine lv_iload_n hx hb dX1_init_112 rfl (lv_at hl 0 rfl) ?_
  refine lv_bipush (v := 8) hx hb dX1_init_113 (by decide) ?_
  refine lv_icmp_ge (tgt := 137) hx hb dX1_init_115 (by decide) (fun c9 => absurd c9 (by decide)) (fun _ => ?_)
  refine lv_aload_n hx hb dX1_init_118 rfl (lv_at hl 1 rfl) ?_
  refine pg_2_1 (j := 0) (o := 2) hx hb hts hown hK hV (by decide) (by decide +kernel) (by decide +kernel) tw_1_143 dX1_init_119 ?_
  refine lv_iload_n hx hb dX1_init_122 rfl (lv_at hl 0 rfl) ?_
  refine pn_1 hx hb hts hown tw_1_54 tw_1_80 tw_1_5 hK hV hz hS (Nat.le_of_ble_eq_true rfl) (Nat.le_of_ble_eq_true rfl) dX1_init_123 (fun H hV hz hS => ?_)
  refine lv_dup hx hb dX1_init_126 rfl ?_
  refine rl_call (n := 9) (N := 1) (M := g_X0_init) (va_runIN (As := []) (rest := [.ref (x + 9), .int (2 : Int32), .ref (x + 2)]) ⟨hx, hb, hml, hown, hts⟩ (kc_X0_init l (rl_o ω x _) (x + 9) (Nat.le_trans hx0 (Nat.le_add_right x 9))) ⟨va_cnB 0 hts (rc_gI tw_1_83) rfl rfl rfl (rc_E_nw hE _ nw_1_81) (hts _ tw_1_5) (by decide +kernel) ⟨Nat.le_of_ble_eq_true rfl, Nat.le_of_ble_eq_true rfl⟩, rfl, hts _ tw_1_82⟩ (rl_pre hx0 hK hE hA hV hz hS [.ref (x + 9)]) rfl rfl hl.1 rfl (lv_room (Nat.le_of_ble_eq_true rfl)) dX1_init_127 ⟨Nat.le_of_ble_eq_true rfl, Nat.le_of_ble_eq_true rfl⟩) (Nat.le_add_right x 9) hS (fun H locs hV hz hS => ?_)
  refine rl_aast (j := 2) (t := 25) (n' := 8) (r := (RX0, TX0, 6)) hx hb hK hV hz hS (by decide +kernel) (by decide) (fun _ _ => rfl) 4 rfl (o := 9) (tv := 1) (ci := 4) (k := 2) (by decide) (by decide +kernel) (by decide) rfl rfl (rc_inD (by decide)) (by decide) dX1_init_130 (fun H locs hV hz hS => ?_)
  refine lv_iinc (v := (3 : Int32)) (lv' := [(1, .int (3 : Int32)), (0, .ref x)]) hx hb dX1_init_131 hl (k := 0) rfl (by decide) (by decide) rfl (fun ls hl => ?_)
  refine lv_goto (tgt := 112) hx hb dX1_init_134 (by decide) ?_
  refine lv_iload_n hx hb dX1_init_112 rfl (lv_at hl 0 rfl) ?_
  refine lv_bipush (v := 8) hx hb dX1_init_113 (by decide) ?_
  refine lv_icmp_ge (tgt := 137) hx hb dX1_init_115 (by decide) (fun c9 => absurd c9 (by decide)) (fun _ => ?_)
  refine lv_aload_n hx hb dX1_init_118 rfl (lv_at hl 1 rfl) ?_
  refine pg_2_1 (j := 0) (o := 2) hx hb hts hown hK hV (by decide) (by decide +kernel) (by decide +kernel) tw_1_143 dX1_init_119 ?_
  refine lv_iload_n hx hb dX1_init_122 rfl (lv_at hl 0 rfl) ?_
  refine pn_1 hx hb hts hown tw_1_54 tw_1_80 tw_1_5 hK hV hz hS (Nat.le_of_ble_eq_true rfl) (Nat.le_of_ble_eq_true rfl) dX1_init_123 (fun H hV hz hS => ?_)
  refine lv_dup hx hb dX1_init_126 rfl ?_
  refine rl_call (n := 10) (N := 1) (M := g_X0_init) (va_runIN (As := []) (rest := [.ref (x + 10), .int (3 : Int32), .ref (x + 2)]) ⟨hx, hb, hml, hown, hts⟩ (kc_X0_init l (rl_o ω x _) (x + 10) (Nat.le_trans hx0 (Nat.le_add_right x 10))) ⟨va_cnB 0 hts (rc_gI tw_1_83) rfl rfl rfl (rc_E_nw hE _ nw_1_81) (hts _ tw_1_5) (by decide +kernel) ⟨Nat.le_of_ble_eq_true rfl, Nat.le_of_ble_eq_true rfl⟩, rfl, hts _ tw_1_82⟩ (rl_pre hx0 hK hE hA hV hz hS [.ref (x + 10)]) rfl rfl hl.1 rfl (lv_room (Nat.le_of_ble_eq_true rfl)) dX1_init_127 ⟨Nat.le_of_ble_eq_true rfl, Nat.le_of_ble_eq_true rfl⟩) (Nat.le_add_right x 10) hS (fun H locs hV hz hS => ?_)
  refine rl_aast (j := 2) (t := 25) (n' := 8) (r := (RX0, TX0, 6)) hx hb hK hV hz hS (by decide +kernel) (by decide) (fun _ _ => rfl) 4 rfl (o := 10) (tv := 1) (ci := 4) (k := 3) (by decide) (by decide +kernel) (by decide) rfl rfl (rc_inD (by decide)) (by decide) dX1_init_130 (fun H locs hV hz hS => ?_)
  refine lv_iinc (v := (4 : Int32)) (lv' := [(1, .int (4 : Int32)), (0, .ref x)]) hx hb dX1_init_131 hl (k := 0) rfl (by decide) (by decide) rfl (fun ls hl => ?_)
  refine lv_goto (tgt := 112) hx hb dX1_init_134 (by decide) ?_
  refine lv_iload_n hx hb dX1_init_112 rfl (lv_at hl 0 rfl) ?_
  refine lv_bipush (v := 8) hx hb dX1_init_113 (by decide) ?_
  refine lv_icmp_ge (tgt := 137) hx hb dX1_init_115 (by decide) (fun c9 => absurd c9 (by decide)) (fun _ => ?_)
  refine lv_aload_n hx hb dX1_init_118 rfl (lv_at hl 1 rfl) ?_
  refine pg_2_1 (j := 0) (o := 2) hx hb hts hown hK hV (by decide) (by decide +kernel) (by decide +kernel) tw_1_143 dX1_init_119 ?_
  refine lv_iload_n hx hb dX1_init_122 rfl (lv_at hl 0 rfl) ?_
  refine pn_1 hx hb hts hown tw_1_54 tw_1_80 tw_1_5 hK hV hz hS (Nat.le_of_ble_eq_true rfl) (Nat.le_of_ble_eq_true rfl) dX1_init_123 (fun H hV hz hS => ?_)
  refine lv_dup hx hb dX1_init_126 rfl ?_
  refine rl_call (n := 11) (N := 1) (M := g_X0_init) (va_runIN (As := []) (rest := [.ref (x + 11), .int (4 : Int32), .ref (x + 2)]) ⟨hx, hb, hml, hown, hts⟩ (kc_X0_init l (rl_o ω x _) (x + 11) (Nat.le_trans hx0 (Nat.le_add_right x 11))) ⟨va_cnB 0 hts (rc_gI tw_1_83) rfl rfl rfl (rc_E_nw hE _ nw_1_81) (hts _ tw_1_5) (by decide +kernel) ⟨Nat.le_of_ble_eq_true rfl, Nat.le_of_ble_eq_true rfl⟩, rfl, hts _ tw_1_82⟩ (rl_pre hx0 hK hE hA hV hz hS [.ref (x + 11)]) rfl rfl hl.1 rfl (lv_room (Nat.le_of_ble_eq_true rfl)) dX1_init_127 ⟨Nat.le_of_ble_eq_true rfl, Nat.le_of_ble_eq_true rfl⟩) (Nat.le_add_right x 11) hS (fun H locs hV hz hS => ?_)
  refine rl_aast (j := 2) (t := 25) (n' := 8) (r := (RX0, TX0, 6)) hx hb hK hV hz hS (by decide +kernel) (by decide) (fun _ _ => rfl) 4 rfl (o := 11) (tv := 1) (ci := 4) (k := 4) (by decide) (by decide +kernel) (by decide) rfl rfl (rc_inD (by decide)) (by decide) dX1_init_130 (fun H locs hV hz hS => ?_)
  refine lv_iinc (v := (5 : Int32)) (lv' := [(1, .int (5 : Int32)), (0, .ref x)]) hx hb dX1_init_131 hl (k := 0) rfl (by decide) (by decide) rfl (fun ls hl => ?_)
  refine lv_goto (tgt := 112) hx hb dX1_init_134 (by decide) ?_
  refine lv_iload_n hx hb dX1_init_112 rfl (lv_at hl 0 rfl) ?_
  refine lv_bipush (v := 8) hx hb dX1_init_113 (by decide) ?_
  refine lv_icmp_ge (tgt := 137) hx hb dX1_init_115 (by decide) (fun c9 => absurd c9 (by decide)) (fun _ => ?_)
  refine lv_aload_n hx hb dX1_init_118 rfl (lv_at hl 1 rfl) ?_
  refine pg_2_1 (j := 0) (o := 2) hx hb hts hown hK hV (by decide) (by decide +kernel) (by decide +kernel) tw_1_143 dX1_init_119 ?_
  refine lv_iload_n hx hb dX1_init_122 rfl (lv_at hl 0 rfl) ?_
  refine pn_1 hx hb hts hown tw_1_54 tw_1_80 tw_1_5 hK hV hz hS (Nat.le_of_ble_eq_true rfl) (Nat.le_of_ble_eq_true rfl) dX1_init_123 (fun H hV hz hS => ?_)
  refine lv_dup hx hb dX1_init_126 rfl ?_
  refine rl_call (n := 12) (N := 1) (M := g_X0_init) (va_runIN (As := []) (rest := [.ref (x + 12), .int (5 : Int32), .ref (x + 2)]) ⟨hx, hb, hml, hown, hts⟩ (kc_X0_init l (rl_o ω x _) (x + 12) (Nat.le_trans hx0 (Nat.le_add_right x 12))) ⟨va_cnB 0 hts (rc_gI tw_1_83) rfl rfl rfl (rc_E_nw hE _ nw_1_81) (hts _ tw_1_5) (by decide +kernel) ⟨Nat.le_of_ble_eq_true rfl, Nat.le_of_ble_eq_true rfl⟩, rfl, hts _ tw_1_82⟩ (rl_pre hx0 hK hE hA hV hz hS [.ref (x + 12)]) rfl rfl hl.1 rfl (lv_room (Nat.le_of_ble_eq_true rfl)) dX1_init_127 ⟨Nat.le_of_ble_eq_true rfl, Nat.le_of_ble_eq_true rfl⟩) (Nat.le_add_right x 12) hS (fun H locs hV hz hS => ?_)
  refine rl_aast (j := 2) (t := 25) (n' := 8) (r := (RX0, TX0, 6)) hx hb hK hV hz hS (by decide +kernel) (by decide) (fun _ _ => rfl) 4 rfl (o := 12) (tv := 1) (ci := 4) (k := 5) (by decide) (by decide +kernel) (by decide) rfl rfl (rc_inD (by decide)) (by decide) dX1_init_130 (fun H locs hV hz hS => ?_)
  refine lv_iinc (v := (6 : Int32)) (lv' := [(1, .int (6 : Int32)), (0, .ref x)]) hx hb dX1_init_131 hl (k := 0) rfl (by decide) (by decide) rfl (fun ls hl => ?_)
  refine lv_goto (tgt := 112) hx hb dX1_init_134 (by decide) ?_
  refine lv_iload_n hx hb dX1_init_112 rfl (lv_at hl 0 rfl) ?_
  refine lv_bipush (v := 8) hx hb dX1_init_113 (by decide) ?_
  refine lv_icmp_ge (tgt := 137) hx hb dX1_init_115 (by decide) (fun c9 => absurd c9 (by decide)) (fun _ => ?_)
  refine lv_aload_n hx hb dX1_init_118 rfl (lv_at hl 1 rfl) ?_
  refine pg_2_1 (j := 0) (o := 2) hx hb hts hown hK hV (by decide) (by decide +kernel) (by decide +kernel) tw_1_143 dX1_init_119 ?_
  refine lv_iload_n hx hb dX1_init_122 rfl (lv_at hl 0 rfl) ?_
  refine pn_1 hx hb hts hown tw_1_54 tw_1_80 tw_1_5 hK hV hz hS (Nat.le_of_ble_eq_true rfl) (Nat.le_of_ble_eq_true rfl) dX1_init_123 (fun H hV hz hS => ?_)
  refine lv_dup hx hb dX1_init_126 rfl ?_
  refine rl_call (n := 13) (N := 1) (M := g_X0_init) (va_runIN (As := []) (rest := [.ref (x + 13), .int (6 : Int32), .ref (x + 2)]) ⟨hx, hb, hml, hown, hts⟩ (kc_X0_init l (rl_o ω x _) (x + 13) (Nat.le_trans hx0 (Nat.le_add_right x 13))) ⟨va_cnB 0 hts (rc_gI tw_1_83) rfl rfl rfl (rc_E_nw hE _ nw_1_81) (hts _ tw_1_5) (by decide +kernel) ⟨Nat.le_of_ble_eq_true rfl, Nat.le_of_ble_eq_true rfl⟩, rfl, hts _ tw_1_82⟩ (rl_pre hx0 hK hE hA hV hz hS [.ref (x + 13)]) rfl rfl hl.1 rfl (lv_room (Nat.le_of_ble_eq_true rfl)) dX1_init_127 ⟨Nat.le_of_ble_eq_true rfl, Nat.le_of_ble_eq_true rfl⟩) (Nat.le_add_right x 13) hS (fun H locs hV hz hS => ?_)
  refine rl_aast (j := 2) (t := 25) (n' := 8) (r := (RX0, TX0, 6)) hx hb hK hV hz hS (by decide +kernel) (by decide) (fun _ _ => rfl) 4 rfl (o := 13) (tv := 1) (ci := 4) (k := 6) (by decide) (by decide +kernel) (by decide) rfl rfl (rc_inD (by decide)) (by decide) dX1_init_130 (fun H locs hV hz hS => ?_)
  refine lv_iinc (v := (7 : Int32)) (lv' := [(1, .int (7 : Int32)), (0, .ref x)]) hx hb dX1_init_131 hl (k := 0) rfl (by decide) (by decide) rfl (fun ls hl => ?_)
  refine lv_goto (tgt := 112) hx hb dX1_init_134 (by decide) ?_
  refine lv_iload_n hx hb dX1_init_112 rfl (lv_at hl 0 rfl) ?_
  refine lv_bipush (v := 8) hx hb dX1_init_113 (by decide) ?_
  refine lv_icmp_ge (tgt := 137) hx hb dX1_init_115 (by decide) (fun c9 => absurd c9 (by decide)) (fun _ => ?_)
  refine lv_aload_n hx hb dX1_init_118 rfl (lv_at hl 1 rfl) ?_
  refine pg_2_1 (j := 0) (o := 2) hx hb hts hown hK hV (by decide) (by decide +kernel) (by decide +kernel) tw_1_143 dX1_init_119 ?_
  refine lv_iload_n hx hb dX1_init_122 rfl (lv_at hl 0 rfl) ?_
  refine pn_1 hx hb hts hown tw_1_54 tw_1_80 tw_1_5 hK hV hz hS (Nat.le_of_ble_eq_true rfl) (Nat.le_of_ble_eq_true rfl) dX1_init_123 (fun H hV hz hS => ?_)
  refine lv_dup hx hb dX1_init_126 rfl ?_
  refine rl_call (n := 14) (N := 1) (M := g_X0_init) (va_runIN (As := []) (rest := [.ref (x + 14), .int (7 : Int32), .ref (x + 2)]) ⟨hx, hb, hml, hown, hts⟩ (kc_X0_init l (rl_o ω x _) (x + 14) (Nat.le_trans hx0 (Nat.le_add_right x 14))) ⟨va_cnB 0 hts (rc_gI tw_1_83) rfl rfl rfl (rc_E_nw hE _ nw_1_81) (hts _ tw_1_5) (by decide +kernel) ⟨Nat.le_of_ble_eq_true rfl, Nat.le_of_ble_eq_true rfl⟩, rfl, hts _ tw_1_82⟩ (rl_pre hx0 hK hE hA hV hz hS [.ref (x + 14)]) rfl rfl hl.1 rfl (lv_room (Nat.le_of_ble_eq_true rfl)) dX1_init_127 ⟨Nat.le_of_ble_eq_true rfl, Nat.le_of_ble_eq_true rfl⟩) (Nat.le_add_right x 14) hS (fun H locs hV hz hS => ?_)
  refine rl_aast (j := 2) (t := 25) (n' := 8) (r := (RX0, TX0, 6)) hx hb hK hV hz hS (by decide +kernel) (by decide) (fun _ _ => rfl) 4 rfl (o := 14) (tv := 1) (ci := 4) (k := 7) (by decide) (by decide +kernel) (by decide) rfl rfl (rc_inD (by decide)) (by decide) dX1_init_130 (fun H locs hV hz hS => ?_)
  refine lv_iinc (v := (8 : Int32)) (lv' := [(1, .int (8 : Int32)), (0, .ref x)]) hx hb dX1_init_131 hl (k := 0) rfl (by decide) (by decide) rfl (fun ls hl => ?_)
  refine lv_goto (tgt := 112) hx hb dX1_init_134 (by decide) ?_
  refine lv_iload_n hx hb dX1_init_112 rfl (lv_at hl 0 rfl) ?_
  refine lv_bipush (v := 8) hx hb dX1_init_113 (by decide) ?_
  refine lv_icmp_ge (tgt := 137) hx hb dX1_init_115 (by decide) (fun _ => ?_) (fun c9 => absurd c9 (by decide))
  refine lv_iconst (v := 0) hx hb dX1_init_137 (by decide) ?_
  refine lv_istore_n (lv' := [(1, .int (0 : Int32)), (0, .ref x)]) hx hb dX1_init_138 rfl hl (by decide) rfl (fun ls hl => ?_)
  refine lv_iload_n hx hb dX1_init_139 rfl (lv_at hl 0 rfl) ?_
  refine lv_bipush (v := 12) hx hb dX1_init_140 (by decide) ?_
  refine lv_icmp_ge (tgt := 164) hx hb dX1_init_142 (by decide) (fun c9 => absurd c9 (by decide)) (fun _ => ?_)
  refine lv_aload_n hx hb dX1_init_145 rfl (lv_at hl 1 rfl) ?_
  refine pg_2_4 (j := 0) (o := 6) hx hb hts hown hK hV (by decide) (by decide +kernel) (by decide +kernel) tw_1_152 dX1_init_146 ?_
  refine lv_iload_n hx hb dX1_init_149 rfl (lv_at hl 0 rfl) ?_
  refine pn_5 hx hb hts hown tw_1_78 tw_1_119 tw_1_6 hK hV hz hS (Nat.le_of_ble_eq_true rfl) (Nat.le_of_ble_eq_true rfl) dX1_init_150 (fun H hV hz hS => ?_)
  refine lv_dup hx hb dX1_init_153 rfl ?_
  refine rl_call (n := 15) (N := 1) (M := g_X4_init) (va_runIN (As := []) (rest := [.ref (x + 15), .int (0 : Int32), .ref (x + 6)]) ⟨hx, hb, hml, hown, hts⟩ (kc_X4_init l (rl_o ω x _) (x + 15) (Nat.le_trans hx0 (Nat.le_add_right x 15))) ⟨va_cnB 0 hts (rc_gI tw_1_122) rfl rfl rfl (rc_E_nw hE _ nw_1_120) (hts _ tw_1_6) (by decide +kernel) ⟨Nat.le_of_ble_eq_true rfl, Nat.le_of_ble_eq_true rfl⟩, rfl, hts _ tw_1_121⟩ (rl_pre hx0 hK hE hA hV hz hS [.ref (x + 15)]) rfl rfl hl.1 rfl (lv_room (Nat.le_of_ble_eq_true rfl)) dX1_init_154 ⟨Nat.le_of_ble_eq_true rfl, Nat.le_of_ble_eq_true rfl⟩) (Nat.le_add_right x 15) hS (fun H locs hV hz hS => ?_)
  refine rl_aast (j := 6) (t := 27) (n' := 12) (r := (RX4, TX4, 3)) hx hb hK hV hz hS (by decide +kernel) (by decide) (fun _ _ => rfl) 6 rfl (o := 15) (tv := 5) (ci := 8) (k := 0) (by decide) (by decide +kernel) (by decide) rfl rfl (rc_inD (by decide)) (by decide) dX1_init_157 (fun H locs hV hz hS => ?_)
  refine lv_iinc (v := (1 : Int32)) (lv' := [(1, .int (1 : Int32)), (0, .ref x)]) hx hb dX1_init_158 hl (k := 0) rfl (by decide) (by decide) rfl (fun ls hl => ?_)
  refine lv_goto (tgt := 139) hx hb dX1_init_161 (by decide) ?_
  refine lv_iload_n hx hb dX1_init_139 rfl (lv_at hl 0 rfl) ?_
  refine lv_bipush (v := 12) hx hb dX1_init_140 (by decide) ?_
  refine lv_icmp_ge (tgt := 164) hx hb dX1_init_142 (by decide) (fun c9 => absurd c9 (by decide)) (fun _ => ?_)
  refine lv_aload_n hx hb dX1_init_145 rfl (lv_at hl 1 rfl) ?_
  refine pg_2_4 (j := 0) (o := 6) hx hb hts hown hK hV (by decide) (by decide +kernel) (by decide +kernel) tw_1_152 dX1_init_146 ?_
  refine lv_iload_n hx hb dX1_init_149 rfl (lv_at hl 0 rfl) ?_
  refine pn_5 hx hb hts hown tw_1_78 tw_1_119 tw_1_6 hK hV hz hS (Nat.le_of_ble_eq_true rfl) (Nat.le_of_ble_eq_true rfl) dX1_init_150 (fun H hV hz hS => ?_)
  refine lv_dup hx hb dX1_init_153 rfl ?_
  refine rl_call (n := 16) (N := 1) (M := g_X4_init) (va_runIN (As := []) (rest := [.ref (x + 16), .int (1 : Int32), .ref (x + 6)]) ⟨hx, hb, hml, hown, hts⟩ (kc_X4_init l (rl_o ω x _) (x + 16) (Nat.le_trans hx0 (Nat.le_add_right x 16))) ⟨va_cnB 0 hts (rc_gI tw_1_122) rfl rfl rfl (rc_E_nw hE _ nw_1_120) (hts _ tw_1_6) (by decide +kernel) ⟨Nat.le_of_ble_eq_true rfl, Nat.le_of_ble_eq_true rfl⟩, rfl, hts _ tw_1_121⟩ (rl_pre hx0 hK hE hA hV hz hS [.ref (x + 16)]) rfl rfl hl.1 rfl (lv_room (Nat.le_of_ble_eq_true rfl)) dX1_init_154 ⟨Nat.le_of_ble_eq_true rfl, Nat.le_of_ble_eq_true rfl⟩) (Nat.le_add_right x 16) hS (fun H locs hV hz hS => ?_)
  refine rl_aast (j := 6) (t := 27) (n' := 12) (r := (RX4, TX4, 3)) hx hb hK hV hz hS (by decide +kernel) (by decide) (fun _ _ => rfl) 6 rfl (o := 16) (tv := 5) (ci := 8) (k := 1) (by decide) (by decide +kernel) (by decide) rfl rfl (rc_inD (by decide)) (by decide) dX1_init_157 (fun H locs hV hz hS => ?_)
  refine lv_iinc (v := (2 : Int32)) (lv' := [(1, .int (2 : Int32)), (0, .ref x)]) hx hb dX1_init_158 hl (k := 0) rfl (by decide) (by decide) rfl (fun ls hl => ?_)
  refine lv_goto (tgt := 139) hx hb dX1_init_161 (by decide) ?_
  refine lv_iload_n hx hb dX1_init_139 rfl (lv_at hl 0 rfl) ?_
  refine lv_bipush (v := 12) hx hb dX1_init_140 (by decide) ?_
  refine lv_icmp_ge (tgt := 164) hx hb dX1_init_142 (by decide) (fun c9 => absurd c9 (by decide)) (fun _ => ?_)
  refine lv_aload_n hx hb dX1_init_145 rfl (lv_at hl 1 rfl) ?_
  refine pg_2_4 (j := 0) (o := 6) hx hb hts hown hK hV (by decide) (by decide +kernel) (by decide +kernel) tw_1_152 dX1_init_146 ?_
  refine lv_iload_n hx hb dX1_init_149 rfl (lv_at hl 0 rfl) ?_
  refine pn_5 hx hb hts hown tw_1_78 tw_1_119 tw_1_6 hK hV hz hS (Nat.le_of_ble_eq_true rfl) (Nat.le_of_ble_eq_true rfl) dX1_init_150 (fun H hV hz hS => ?_)
  refine lv_dup hx hb dX1_init_153 rfl ?_
  refine rl_call (n := 17) (N := 1) (M := g_X4_init) (va_runIN (As := []) (rest := [.ref (x + 17), .int (2 : Int32), .ref (x + 6)]) ⟨hx, hb, hml, hown, hts⟩ (kc_X4_init l (rl_o ω x _) (x + 17) (Nat.le_trans hx0 (Nat.le_add_right x 17))) ⟨va_cnB 0 hts (rc_gI tw_1_122) rfl rfl rfl (rc_E_nw hE _ nw_1_120) (hts _ tw_1_6) (by decide +kernel) ⟨Nat.le_of_ble_eq_true rfl, Nat.le_of_ble_eq_true rfl⟩, rfl, hts _ tw_1_121⟩ (rl_pre hx0 hK hE hA hV hz hS [.ref (x + 17)]) rfl rfl hl.1 rfl (lv_room (Nat.le_of_ble_eq_true rfl)) dX1_init_154 ⟨Nat.le_of_ble_eq_true rfl, Nat.le_of_ble_eq_true rfl⟩) (Nat.le_add_right x 17) hS (fun H locs hV hz hS => ?_)
  refine rl_aast (j := 6) (t := 27) (n' := 12) (r := (RX4, TX4, 3)) hx hb hK hV hz hS (by decide +kernel) (by decide) (fun _ _ => rfl) 6 rfl (o := 17) (tv := 5) (ci := 8) (k := 2) (by decide) (by decide +kernel) (by decide) rfl rfl (rc_inD (by decide)) (by decide) dX1_init_157 (fun H locs hV hz hS => ?_)
  refine lv_iinc (v := (3 : Int32)) (lv' := [(1, .int (3 : Int32)), (0, .ref x)]) hx hb dX1_init_158 hl (k := 0) rfl (by decide) (by decide) rfl (fun ls hl => ?_)
  refine lv_goto (tgt := 139) hx hb dX1_init_161 (by decide) ?_
  refine lv_iload_n hx hb dX1_init_139 rfl (lv_at hl 0 rfl) ?_
  refine lv_bipush (v := 12) hx hb dX1_init_140 (by decide) ?_
  refine lv_icmp_ge (tgt := 164) hx hb dX1_init_142 (by decide) (fun c9 => absurd c9 (by decide)) (fun _ => ?_)
  refine lv_aload_n hx hb dX1_init_145 rfl (lv_at hl 1 rfl) ?_
  refine pg_2_4 (j := 0) (o := 6) hx hb hts hown hK hV (by decide) (by decide +kernel) (by decide +kernel) tw_1_152 dX1_init_146 ?_
  refine lv_iload_n hx hb dX1_init_149 rfl (lv_at hl 0 rfl) ?_
  refine pn_5 hx hb hts hown tw_1_78 tw_1_119 tw_1_6 hK hV hz hS (Nat.le_of_ble_eq_true rfl) (Nat.le_of_ble_eq_true rfl) dX1_init_150 (fun H hV hz hS => ?_)
  refine lv_dup hx hb dX1_init_153 rfl ?_
  refine rl_call (n := 18) (N := 1) (M := g_X4_init) (va_runIN (As := []) (rest := [.ref (x + 18), .int (3 : Int32), .ref (x + 6)]) ⟨hx, hb, hml, hown, hts⟩ (kc_X4_init l (rl_o ω x _) (x + 18) (Nat.le_trans hx0 (Nat.le_add_right x 18))) ⟨va_cnB 0 hts (rc_gI tw_1_122) rfl rfl rfl (rc_E_nw hE _ nw_1_120) (hts _ tw_1_6) (by decide +kernel) ⟨Nat.le_of_ble_eq_true rfl, Nat.le_of_ble_eq_true rfl⟩, rfl, hts _ tw_1_121⟩ (rl_pre hx0 hK hE hA hV hz hS [.ref (x + 18)]) rfl rfl hl.1 rfl (lv_room (Nat.le_of_ble_eq_true rfl)) dX1_init_154 ⟨Nat.le_of_ble_eq_true rfl, Nat.le_of_ble_eq_true rfl⟩) (Nat.le_add_right x 18) hS (fun H locs hV hz hS => ?_)
  refine rl_aast (j := 6) (t := 27) (n' := 12) (r := (RX4, TX4, 3)) hx hb hK hV hz hS (by decide +kernel) (by decide) (fun _ _ => rfl) 6 rfl (o := 18) (tv := 5) (ci := 8) (k := 3) (by decide) (by decide +kernel) (by decide) rfl rfl (rc_inD (by decide)) (by decide) dX1_init_157 (fun H locs hV hz hS => ?_)
  refine lv_iinc (v := (4 : Int32)) (lv' := [(1, .int (4 : Int32)), (0, .ref x)]) hx hb dX1_init_158 hl (k := 0) rfl (by decide) (by decide) rfl (fun ls hl => ?_)
  refine lv_goto (tgt := 139) hx hb dX1_init_161 (by decide) ?_
  refine lv_iload_n hx hb dX1_init_139 rfl (lv_at hl 0 rfl) ?_
  refine lv_bipush (v := 12) hx hb dX1_init_140 (by decide) ?_
  refine lv_icmp_ge (tgt := 164) hx hb dX1_init_142 (by decide) (fun c9 => absurd c9 (by decide)) (fun _ => ?_)
  refine lv_aload_n hx hb dX1_init_145 rfl (lv_at hl 1 rfl) ?_
  refine pg_2_4 (j := 0) (o := 6) hx hb hts hown hK hV (by decide) (by decide +kernel) (by decide +kernel) tw_1_152 dX1_init_146 ?_
  refine lv_iload_n hx hb dX1_init_149 rfl (lv_at hl 0 rfl) ?_
  refine pn_5 hx hb hts hown tw_1_78 tw_1_119 tw_1_6 hK hV hz hS (Nat.le_of_ble_eq_true rfl) (Nat.le_of_ble_eq_true rfl) dX1_init_150 (fun H hV hz hS => ?_)
  refine lv_dup hx hb dX1_init_153 rfl ?_
  refine rl_call (n := 19) (N := 1) (M := g_X4_init) (va_runIN (As := []) (rest := [.ref (x + 19), .int (4 : Int32), .ref (x + 6)]) ⟨hx, hb, hml, hown, hts⟩ (kc_X4_init l (rl_o ω x _) (x + 19) (Nat.le_trans hx0 (Nat.le_add_right x 19))) ⟨va_cnB 0 hts (rc_gI tw_1_122) rfl rfl rfl (rc_E_nw hE _ nw_1_120) (hts _ tw_1_6) (by decide +kernel) ⟨Nat.le_of_ble_eq_true rfl, Nat.le_of_ble_eq_true rfl⟩, rfl, hts _ tw_1_121⟩ (rl_pre hx0 hK hE hA hV hz hS [.ref (x + 19)]) rfl rfl hl.1 rfl (lv_room (Nat.le_of_ble_eq_true rfl)) dX1_init_154 ⟨Nat.le_of_ble_eq_true rfl, Nat.le_of_ble_eq_true rfl⟩) (Nat.le_add_right x 19) hS (fun H locs hV hz hS => ?_)
  refine rl_aast (j := 6) (t := 27) (n' := 12) (r := (RX4, TX4, 3)) hx hb hK hV hz hS (by decide +kernel) (by decide) (fun _ _ => rfl) 6 rfl (o := 19) (tv := 5) (ci := 8) (k := 4) (by decide) (by decide +kernel) (by decide) rfl rfl (rc_inD (by decide)) (by decide) dX1_init_157 (fun H locs hV hz hS => ?_)
  refine lv_iinc (v := (5 : Int32)) (lv' := [(1, .int (5 : Int32)), (0, .ref x)]) hx hb dX1_init_158 hl (k := 0) rfl (by decide) (by decide) rfl (fun ls hl => ?_)
  refine lv_goto (tgt := 139) hx hb dX1_init_161 (by decide) ?_
  refine lv_iload_n hx hb dX1_init_139 rfl (lv_at hl 0 rfl) ?_
  refine lv_bipush (v := 12) hx hb dX1_init_140 (by decide) ?_
  refine lv_icmp_ge (tgt := 164) hx hb dX1_init_142 (by decide) (fun c9 => absurd c9 (by decide)) (fun _ => ?_)
  refine lv_aload_n hx hb dX1_init_145 rfl (lv_at hl 1 rfl) ?_
  refine pg_2_4 (j := 0) (o := 6) hx hb hts hown hK hV (by decide) (by decide +kernel) (by decide +kernel) tw_1_152 dX1_init_146 ?_
  refine lv_iload_n hx hb dX1_init_149 rfl (lv_at hl 0 rfl) ?_
  refine pn_5 hx hb hts hown tw_1_78 tw_1_119 tw_1_6 hK hV hz hS (Nat.le_of_ble_eq_true rfl) (Nat.le_of_ble_eq_true rfl) dX1_init_150 (fun H hV hz hS => ?_)
  refine lv_dup hx hb dX1_init_153 rfl ?_
  refine rl_call (n := 20) (N := 1) (M := g_X4_init) (va_runIN (As := []) (rest := [.ref (x + 20), .int (5 : Int32), .ref (x + 6)]) ⟨hx, hb, hml, hown, hts⟩ (kc_X4_init l (rl_o ω x _) (x + 20) (Nat.le_trans hx0 (Nat.le_add_right x 20))) ⟨va_cnB 0 hts (rc_gI tw_1_122) rfl rfl rfl (rc_E_nw hE _ nw_1_120) (hts _ tw_1_6) (by decide +kernel) ⟨Nat.le_of_ble_eq_true rfl, Nat.le_of_ble_eq_true rfl⟩, rfl, hts _ tw_1_121⟩ (rl_pre hx0 hK hE hA hV hz hS [.ref (x + 20)]) rfl rfl hl.1 rfl (lv_room (Nat.le_of_ble_eq_true rfl)) dX1_init_154 ⟨Nat.le_of_ble_eq_true rfl, Nat.le_of_ble_eq_true rfl⟩) (Nat.le_add_right x 20) hS (fun H locs hV hz hS => ?_)
  refine rl_aast (j := 6) (t := 27) (n' := 12) (r := (RX4, TX4, 3)) hx hb hK hV hz hS (by decide +kernel) (by decide) (fun _ _ => rfl) 6 rfl (o := 20) (tv := 5) (ci := 8) (k := 5) (by decide) (by decide +kernel) (by decide) rfl rfl (rc_inD (by decide)) (by decide) dX1_init_157 (fun H locs hV hz hS => ?_)
  refine lv_iinc (v := (6 : Int32)) (lv' := [(1, .int (6 : Int32)), (0, .ref x)]) hx hb dX1_init_158 hl (k := 0) rfl (by decide) (by decide) rfl (fun ls hl => ?_)
  refine lv_goto (tgt := 139) hx hb dX1_init_161 (by decide) ?_
  refine lv_iload_n hx hb dX1_init_139 rfl (lv_at hl 0 rfl) ?_
  refine lv_bipush (v := 12) hx hb dX1_init_140 (by decide) ?_
  refine lv_icmp_ge (tgt := 164) hx hb dX1_init_142 (by decide) (fun c9 => absurd c9 (by decide)) (fun _ => ?_)
  refine lv_aload_n hx hb dX1_init_145 rfl (lv_at hl 1 rfl) ?_
  refine pg_2_4 (j := 0) (o := 6) hx hb hts hown hK hV (by decide) (by decide +kernel) (by decide +kernel) tw_1_152 dX1_init_146 ?_
  refine lv_iload_n hx hb dX1_init_149 rfl (lv_at hl 0 rfl) ?_
  refine pn_5 hx hb hts hown tw_1_78 tw_1_119 tw_1_6 hK hV hz hS (Nat.le_of_ble_eq_true rfl) (Nat.le_of_ble_eq_true rfl) dX1_init_150 (fun H hV hz hS => ?_)
  refine lv_dup hx hb dX1_init_153 rfl ?_
  refine rl_call (n := 21) (N := 1) (M := g_X4_init) (va_runIN (As := []) (rest := [.ref (x + 21), .int (6 : Int32), .ref (x + 6)]) ⟨hx, hb, hml, hown, hts⟩ (kc_X4_init l (rl_o ω x _) (x + 21) (Nat.le_trans hx0 (Nat.le_add_right x 21))) ⟨va_cnB 0 hts (rc_gI tw_1_122) rfl rfl rfl (rc_E_nw hE _ nw_1_120) (hts _ tw_1_6) (by decide +kernel) ⟨Nat.le_of_ble_eq_true rfl, Nat.le_of_ble_eq_true rfl⟩, rfl, hts _ tw_1_121⟩ (rl_pre hx0 hK hE hA hV hz hS [.ref (x + 21)]) rfl rfl hl.1 rfl (lv_room (Nat.le_of_ble_eq_true rfl)) dX1_init_154 ⟨Nat.le_of_ble_eq_true rfl, Nat.le_of_ble_eq_true rfl⟩) (Nat.le_add_right x 21) hS (fun H locs hV hz hS => ?_)
  refine rl_aast (j := 6) (t := 27) (n' := 12) (r := (RX4, TX4, 3)) hx hb hK hV hz hS (by decide +kernel) (by decide) (fun _ _ => rfl) 6 rfl (o := 21) (tv := 5) (ci := 8) (k := 6) (by decide) (by decide +kernel) (by decide) rfl rfl (rc_inD (by decide)) (by decide) dX1_init_157 (fun H locs hV hz hS => ?_)
  refine lv_iinc (v := (7 : Int32)) (lv' := [(1, .int (7 : Int32)), (0, .ref x)]) hx hb dX1_init_158 hl (k := 0) rfl (by decide) (by decide) rfl (fun ls hl => ?_)
  refine lv_goto (tgt := 139) hx hb dX1_init_161 (by decide) ?_
  refine lv_iload_n hx hb dX1_init_139 rfl (lv_at hl 0 rfl) ?_
  refine lv_bipush (v := 12) hx hb dX1_init_140 (by decide) ?_
  refine lv_icmp_ge (tgt := 164) hx hb dX1_init_142 (by decide) (fun c9 => absurd c9 (by decide)) (fun _ => ?_)
  refine lv_aload_n hx hb dX1_init_145 rfl (lv_at hl 1 rfl) ?_
  refine pg_2_4 (j := 0) (o := 6) hx hb hts hown hK hV (by decide) (by decide +kernel) (by decide +kernel) tw_1_152 dX1_init_146 ?_
  refine lv_iload_n hx hb dX1_init_149 rfl (lv_at hl 0 rfl) ?_
  refine pn_5 hx hb hts hown tw_1_78 tw_1_119 tw_1_6 hK hV hz hS (Nat.le_of_ble_eq_true rfl) (Nat.le_of_ble_eq_true rfl) dX1_init_150 (fun H hV hz hS => ?_)
  refine lv_dup hx hb dX1_init_153 rfl ?_
  refine rl_call (n := 22) (N := 1) (M := g_X4_init) (va_runIN (As := []) (rest := [.ref (x + 22), .int (7 : Int32), .ref (x + 6)]) ⟨hx, hb, hml, hown, hts⟩ (kc_X4_init l (rl_o ω x _) (x + 22) (Nat.le_trans hx0 (Nat.le_add_right x 22))) ⟨va_cnB 0 hts (rc_gI tw_1_122) rfl rfl rfl (rc_E_nw hE _ nw_1_120) (hts _ tw_1_6) (by decide +kernel) ⟨Nat.le_of_ble_eq_true rfl, Nat.le_of_ble_eq_true rfl⟩, rfl, hts _ tw_1_121⟩ (rl_pre hx0 hK hE hA hV hz hS [.ref (x + 22)]) rfl rfl hl.1 rfl (lv_room (Nat.le_of_ble_eq_true rfl)) dX1_init_154 ⟨Nat.le_of_ble_eq_true rfl, Nat.le_of_ble_eq_true rfl⟩) (Nat.le_add_right x 22) hS (fun H locs hV hz hS => ?_)
  refine rl_aast (j := 6) (t := 27) (n' := 12) (r := (RX4, TX4, 3)) hx hb hK hV hz hS (by decide +kernel) (by decide) (fun _ _ => rfl) 6 rfl (o := 22) (tv := 5) (ci := 8) (k := 7) (by decide) (by decide +kernel) (by decide) rfl rfl (rc_inD (by decide)) (by decide) dX1_init_157 (fun H locs hV hz hS => ?_)
  refine lv_iinc (v := (8 : Int32)) (lv' := [(1, .int (8 : Int32)), (0, .ref x)]) hx hb dX1_init_158 hl (k := 0) rfl (by decide) (by decide) rfl (fun ls hl => ?_)
  refine lv_goto (tgt := 139) hx hb dX1_init_161 (by decide) ?_
  refine lv_iload_n hx hb dX1_init_139 rfl (lv_at hl 0 rfl) ?_
  refine lv_bipush (v := 12) hx hb dX1_init_140 (by decide) ?_
  refine lv_icmp_ge (tgt := 164) hx hb dX1_init_142 (by decide) (fun c9 => absurd c9 (by decide)) (fun _ => ?_)
  refine lv_aload_n hx hb dX1_init_145 rfl (lv_at hl 1 rfl) ?_
  refine pg_2_4 (j := 0) (o := 6) hx hb hts hown hK hV (by decide) (by decide +kernel) (by decide +kernel) tw_1_152 dX1_init_146 ?_
  refine lv_iload_n hx hb dX1_init_149 rfl (lv_at hl 0 rfl) ?_
  refine pn_5 hx hb hts hown tw_1_78 tw_1_119 tw_1_6 hK hV hz hS (Nat.le_of_ble_eq_true rfl) (Nat.le_of_ble_eq_true rfl) dX1_init_150 (fun H hV hz hS => ?_)
  refine lv_dup hx hb dX1_init_153 rfl ?_
  refine rl_call (n := 23) (N := 1) (M := g_X4_init) (va_runIN (As := []) (rest := [.ref (x + 23), .int (8 : Int32), .ref (x + 6)]) ⟨hx, hb, hml, hown, hts⟩ (kc_X4_init l (rl_o ω x _) (x + 23) (Nat.le_trans hx0 (Nat.le_add_right x 23))) ⟨va_cnB 0 hts (rc_gI tw_1_122) rfl rfl rfl (rc_E_nw hE _ nw_1_120) (hts _ tw_1_6) (by decide +kernel) ⟨Nat.le_of_ble_eq_true rfl, Nat.le_of_ble_eq_true rfl⟩, rfl, hts _ tw_1_121⟩ (rl_pre hx0 hK hE hA hV hz hS [.ref (x + 23)]) rfl rfl hl.1 rfl (lv_room (Nat.le_of_ble_eq_true rfl)) dX1_init_154 ⟨Nat.le_of_ble_eq_true rfl, Nat.le_of_ble_eq_true rfl⟩) (Nat.le_add_right x 23) hS (fun H locs hV hz hS => ?_)
  refine rl_aast (j := 6) (t := 27) (n' := 12) (r := (RX4, TX4, 3)) hx hb hK hV hz hS (by decide +kernel) (by decide) (fun _ _ => rfl) 6 rfl (o := 23) (tv := 5) (ci := 8) (k := 8) (by decide) (by decide +kernel) (by decide) rfl rfl (rc_inD (by decide)) (by decide) dX1_init_157 (fun H locs hV hz hS => ?_)
  refine lv_iinc (v := (9 : Int32)) (lv' := [(1, .int (9 : Int32)), (0, .ref x)]) hx hb dX1_init_158 hl (k := 0) rfl (by decide) (by decide) rfl (fun ls hl => ?_)
  refine lv_goto (tgt := 139) hx hb dX1_init_161 (by decide) ?_
  refine lv_iload_n hx hb dX1_init_139 rfl (lv_at hl 0 rfl) ?_
  refine lv_bipush (v := 12) hx hb dX1_init_140 (by decide) ?_
  refine lv_icmp_ge (tgt := 164) hx hb dX1_init_142 (by decide) (fun c9 => absurd c9 (by decide)) (fun _ => ?_)
  refine lv_aload_n hx hb dX1_init_145 rfl (lv_at hl 1 rfl) ?_
  refine pg_2_4 (j := 0) (o := 6) hx hb hts hown hK hV (by decide) (by decide +kernel) (by decide +kernel) tw_1_152 dX1_init_146 ?_
  refine lv_iload_n hx hb dX1_init_149 rfl (lv_at hl 0 rfl) ?_
  refine pn_5 hx hb hts hown tw_1_78 tw_1_119 tw_1_6 hK hV hz hS (Nat.le_of_ble_eq_true rfl) (Nat.le_of_ble_eq_true rfl) dX1_init_150 (fun H hV hz hS => ?_)
  refine lv_dup hx hb dX1_init_153 rfl ?_
  refine rl_call (n := 24) (N := 1) (M := g_X4_init) (va_runIN (As := []) (rest := [.ref (x + 24), .int (9 : Int32), .ref (x + 6)]) ⟨hx, hb, hml, hown, hts⟩ (kc_X4_init l (rl_o ω x _) (x + 24) (Nat.le_trans hx0 (Nat.le_add_right x 24))) ⟨va_cnB 0 hts (rc_gI tw_1_122) rfl rfl rfl (rc_E_nw hE _ nw_1_120) (hts _ tw_1_6) (by decide +kernel) ⟨Nat.le_of_ble_eq_true rfl, Nat.le_of_ble_eq_true rfl⟩, rfl, hts _ tw_1_121⟩ (rl_pre hx0 hK hE hA hV hz hS [.ref (x + 24)]) rfl rfl hl.1 rfl (lv_room (Nat.le_of_ble_eq_true rfl)) dX1_init_154 ⟨Nat.le_of_ble_eq_true rfl, Nat.le_of_ble_eq_true rfl⟩) (Nat.le_add_right x 24) hS (fun H locs hV hz hS => ?_)
  refine rl_aast (j := 6) (t := 27) (n' := 12) (r := (RX4, TX4, 3)) hx hb hK hV hz hS (by decide +kernel) (by decide) (fun _ _ => rfl) 6 rfl (o := 24) (tv := 5) (ci := 8) (k := 9) (by decide) (by decide +kernel) (by decide) rfl rfl (rc_inD (by decide)) (by decide) dX1_init_157 (fun H locs hV hz hS => ?_)
  refine lv_iinc (v := (10 : Int32)) (lv' := [(1, .int (10 : Int32)), (0, .ref x)]) hx hb dX1_init_158 hl (k := 0) rfl (by decide) (by decide) rfl (fun ls hl => ?_)
  refine lv_goto (tgt := 139) hx hb dX1_init_161 (by decide) ?_
  refine lv_iload_n hx hb dX1_init_139 rfl (lv_at hl 0 rfl) ?_
  refine lv_bipush (v := 12) hx hb dX1_init_140 (by decide) ?_
  refine lv_icmp_ge (tgt := 164) hx hb dX1_init_142 (by decide) (fun c9 => absurd c9 (by decide)) (fun _ => ?_)
  refine lv_aload_n hx hb dX1_init_145 rfl (lv_at hl 1 rfl) ?_
  refine pg_2_4 (j := 0) (o := 6) hx hb hts hown hK hV (by decide) (by decide +kernel) (by decide +kernel) tw_1_152 dX1_init_146 ?_
  refine lv_iload_n hx hb dX1_init_149 rfl (lv_at hl 0 rfl) ?_
  refine pn_5 hx hb hts hown tw_1_78 tw_1_119 tw_1_6 hK hV hz hS (Nat.le_of_ble_eq_true rfl) (Nat.le_of_ble_eq_true rfl) dX1_init_150 (fun H hV hz hS => ?_)
  refine lv_dup hx hb dX1_init_153 rfl ?_
  refine rl_call (n := 25) (N := 1) (M := g_X4_init) (va_runIN (As := []) (rest := [.ref (x + 25), .int (10 : Int32), .ref (x + 6)]) ⟨hx, hb, hml, hown, hts⟩ (kc_X4_init l (rl_o ω x _) (x + 25) (Nat.le_trans hx0 (Nat.le_add_right x 25))) ⟨va_cnB 0 hts (rc_gI tw_1_122) rfl rfl rfl (rc_E_nw hE _ nw_1_120) (hts _ tw_1_6) (by decide +kernel) ⟨Nat.le_of_ble_eq_true rfl, Nat.le_of_ble_eq_true rfl⟩, rfl, hts _ tw_1_121⟩ (rl_pre hx0 hK hE hA hV hz hS [.ref (x + 25)]) rfl rfl hl.1 rfl (lv_room (Nat.le_of_ble_eq_true rfl)) dX1_init_154 ⟨Nat.le_of_ble_eq_true rfl, Nat.le_of_ble_eq_true rfl⟩) (Nat.le_add_right x 25) hS (fun H locs hV hz hS => ?_)
  refine rl_aast (j := 6) (t := 27) (n' := 12) (r := (RX4, TX4, 3)) hx hb hK hV hz hS (by decide +kernel) (by decide) (fun _ _ => rfl) 6 rfl (o := 25) (tv := 5) (ci := 8) (k := 10) (by decide) (by decide +kernel) (by decide) rfl rfl (rc_inD (by decide)) (by decide) dX1_init_157 (fun H locs hV hz hS => ?_)
  refine lv_iinc (v := (11 : Int32)) (lv' := [(1, .int (11 : Int32)), (0, .ref x)]) hx hb dX1_init_158 hl (k := 0) rfl (by decide) (by decide) rfl (fun ls hl => ?_)
  refine lv_goto (tgt := 139) hx hb dX1_init_161 (by decide) ?_
  refine lv_iload_n hx hb dX1_init_139 rfl (lv_at hl 0 rfl) ?_
  refine lv_bipush (v := 12) hx hb dX1_init_140 (by decide) ?_
  refine lv_icmp_ge (tgt := 164) hx hb dX1_init_142 (by decide) (fun c9 => absurd c9 (by decide)) (fun _ => ?_)
  refine lv_aload_n hx hb dX1_init_145 rfl (lv_at hl 1 rfl) ?_
  refine pg_2_4 (j := 0) (o := 6) hx hb hts hown hK hV (by decide) (by decide +kernel) (by decide +kernel) tw_1_152 dX1_init_146 ?_
  refine lv_iload_n hx hb dX1_init_149 rfl (lv_at hl 0 rfl) ?_
  refine pn_5 hx hb hts hown tw_1_78 tw_1_119 tw_1_6 hK hV hz hS (Nat.le_of_ble_eq_true rfl) (Nat.le_of_ble_eq_true rfl) dX1_init_150 (fun H hV hz hS => ?_)
  refine lv_dup hx hb dX1_init_153 rfl ?_
  refine rl_call (n := 26) (N := 1) (M := g_X4_init) (va_runIN (As := []) (rest := [.ref (x + 26), .int (11 : Int32), .ref (x + 6)]) ⟨hx, hb, hml, hown, hts⟩ (kc_X4_init l (rl_o ω x _) (x + 26) (Nat.le_trans hx0 (Nat.le_add_right x 26))) ⟨va_cnB 0 hts (rc_gI tw_1_122) rfl rfl rfl (rc_E_nw hE _ nw_1_120) (hts _ tw_1_6) (by decide +kernel) ⟨Nat.le_of_ble_eq_true rfl, Nat.le_of_ble_eq_true rfl⟩, rfl, hts _ tw_1_121⟩ (rl_pre hx0 hK hE hA hV hz hS [.ref (x + 26)]) rfl rfl hl.1 rfl (lv_room (Nat.le_of_ble_eq_true rfl)) dX1_init_154 ⟨Nat.le_of_ble_eq_true rfl, Nat.le_of_ble_eq_true rfl⟩) (Nat.le_add_right x 26) hS (fun H locs hV hz hS => ?_)
  refine rl_aast (j := 6) (t := 27) (n' := 12) (r := (RX4, TX4, 3)) hx hb hK hV hz hS (by decide +kernel) (by decide) (fun _ _ => rfl) 6 rfl (o := 26) (tv := 5) (ci := 8) (k := 11) (by decide) (by decide +kernel) (by decide) rfl rfl (rc_inD (by decide)) (by decide) dX1_init_157 (fun H locs hV hz hS => ?_)
  refine lv_iinc (v := (12 : Int32)) (lv' := [(1, .int (12 : Int32)), (0, .ref x)]) hx hb dX1_init_158 hl (k := 0) rfl (by decide) (by decide) rfl (fun ls hl => ?_)
  refine lv_goto (tgt := 139) hx hb dX1_init_161 (by decide) ?_
  refine lv_iload_n hx hb dX1_init_139 rfl (lv_at hl 0 rfl) ?_
  refine lv_bipush (v := 12) hx hb dX1_init_140 (by decide) ?_
  refine lv_icmp_ge (tgt := 164) hx hb dX1_init_142 (by decide) (fun _ => ?_) (fun c9 => absurd c9 (by decide))
  exact rl_vret (M := g_X1_init) (N := 27) (mc := 26) (ms := 119) hx hb hr hlocks hV hz hS dX1_init_164
def g_X7_init : rl_L := rl_r (rl_c (rl_r (rl_c (rl_0 8) 1 g_X1_init) 0 0 1) 28 g_X5_init) 0 1 28
set_option maxHeartbeats 8000000 in
set_option maxRecDepth 100000 in
theorem kc_X7_init (l : Launch) {Y : rc_Y} (ω : rc_O) (x : Nat) (hx0 : Y.1 ≤ x) : Met l yX7_init (Cond.code yX7_init cX7_init 1 none :: rc_big) ({ frames := 3, cells := 28, slots := 136, locals := 53 } : Room) (rl_P Y ω x 8 [.ref x]) (va_Qv (fun _ : Unit => True) (rl_B Y ω x g_X7_init 29) (fun q => x ≤ q)) 28 136 (fun q => x ≤ q) := by
  refine Met.ofW (cc := cX7_init) (maxL := 1) (ret := none) (by decide +kernel) rfl ?_
  intro p e s m args below meth c s₁ B hml hv
  obtain ⟨rfl, hz, hV, hK, hE, hA⟩ := hv
  have hx := B.exec
  have hb := B.bytes
  have hr := B.returns
  have hts : ∀ w ∈ rc_big, w.before _ s = true := fun w h => atoms_spec (ws := Cond.code yX7_init cX7_init 1 none :: rc_big) B.pre w (List.mem_cons_of_mem _ h)
  have hown : s.vm.findClass RX7 = some m.cls := findClass_of_methodNamed B.named
  have hin : meth.name = "<init>" := (name_of_methodNamed B.named B.method).1
  have hlocks := B.notSynchronized
  clear B
  have hS : va_S (fun q => x ≤ q) s.heap s.heap [] := va_S.rf
  have hl := lv_entry ([.ref x]) (n := 1) (Nat.le_of_ble_eq_true rfl)
  rw [lg_entry_eq]
  generalize (lg_sl ([.ref x]) ++ List.replicate (1 - (lg_sl ([.ref x])).length) Slot.unset).toArray = ls at hl ⊢
  have hl : lv_has ls 1 [(0, .ref x)] := hl
  refine lv_aload_n hx hb dX7_init_0 rfl (lv_at hl 0 rfl) ?_
  refine W.objInit hx hb hown (hts _ tw_1_47) (hts _ tw_1_40) (hts _ tw_1_41) rfl (by rw [hml]; exact hl.1) rfl dX7_init_1 (Nat.le_of_ble_eq_true rfl) (Nat.le_of_ble_eq_true rfl) ?_
  refine W.eq (g2 := F0 m 4 ls []) rfl ?_
  refine lv_aload_n hx hb dX7_init_4 rfl (lv_at hl 0 rfl) ?_
  refine pn_2 hx hb hts hown tw_1_48 tw_1_49 tw_1_3 hK hV hz hS (Nat.le_of_ble_eq_true rfl) (Nat.le_of_ble_eq_true rfl) dX7_init_5 (fun H hV hz hS => ?_)
  refine lv_dup hx hb dX7_init_8 rfl ?_
  refine rl_call (n := 1) (N := 27) (M := g_X1_init) (va_runI (As := []) (rest := [.ref (x + 1), .ref x]) ⟨hx, hb, hml, hown, hts⟩ (kc_X1_init l (rl_o ω x _) (x + 1) (Nat.le_trans hx0 (Nat.le_add_right x 1))) (cwI 0 hts (rc_gI tw_1_52) rfl rfl rfl (hts _ tw_1_3) (hts _ tw_1_50) (hts _ tw_1_51) rfl (by decide +kernel) ⟨Nat.le_of_ble_eq_true rfl, Nat.le_of_ble_eq_true rfl⟩) (rl_pre hx0 hK hE hA hV hz hS [.ref (x + 1)]) rfl rfl hl.1 rfl (lv_room (Nat.le_of_ble_eq_true rfl)) dX7_init_9 ⟨Nat.le_of_ble_eq_true rfl, Nat.le_of_ble_eq_true rfl⟩) (Nat.le_add_right x 1) hS (fun H locs hV hz hS => ?_)
  refine pr_8_0 (j := 0) (o := 1) hx hb hts hown hK hV hz hS hin (by decide) (by decide +kernel) tw_1_226 dX7_init_12 (fun H locs hV hz hS => ?_)
  refine lv_aload_n hx hb dX7_init_15 rfl (lv_at hl 0 rfl) ?_
  refine pn_6 hx hb hts hown tw_1_209 tw_1_210 tw_1_7 hK hV hz hS (Nat.le_of_ble_eq_true rfl) (Nat.le_of_ble_eq_true rfl) dX7_init_16 (fun H hV hz hS => ?_)
  refine lv_dup hx hb dX7_init_19 rfl ?_
  refine rl_call (n := 28) (N := 1) (M := g_X5_init) (va_runIN (As := []) (rest := [.ref (x + 28), .ref x]) ⟨hx, hb, hml, hown, hts⟩ (kc_X5_init l (rl_o ω x _) (x + 28) (Nat.le_trans hx0 (Nat.le_add_right x 28))) ⟨va_cnB 0 hts (rc_gI tw_1_213) rfl rfl rfl (rc_E_nw hE _ nw_1_211) (hts _ tw_1_7) (by decide +kernel) ⟨Nat.le_of_ble_eq_true rfl, Nat.le_of_ble_eq_true rfl⟩, rfl, hts _ tw_1_212⟩ (rl_pre hx0 hK hE hA hV hz hS [.ref (x + 28)]) rfl rfl hl.1 rfl (lv_room (Nat.le_of_ble_eq_true rfl)) dX7_init_20 ⟨Nat.le_of_ble_eq_true rfl, Nat.le_of_ble_eq_true rfl⟩) (Nat.le_add_right x 28) hS (fun H locs hV hz hS => ?_)
  refine pr_8_1 (j := 0) (o := 28) hx hb hts hown hK hV hz hS hin (by decide) (by decide +kernel) tw_1_228 dX7_init_23 (fun H locs hV hz hS => ?_)
  exact rl_vret (M := g_X7_init) (N := 29) (mc := 28) (ms := 136) hx hb hr hlocks hV hz hS dX7_init_26
