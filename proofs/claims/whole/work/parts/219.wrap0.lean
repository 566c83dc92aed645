set_option maxHeartbeats 4000000 in
set_option maxRecDepth 100000 in
theorem k_L_storm (l : Launch) (hl9 : l.stackTraces = false) {Y : rc_Y} {sh : Nat → Nat} {rf : rc_F} (hT : rc_T Y sh rf) (a0 : Nat) (u1 : Int32) (u2 : Int32) (q3 : Nat) (h0 : sh a0 = 9) (ho : sh q3 = 0) (dL : ClassId) (f : Nat → Int64) (sz : Nat) (σ σ' : rc_S) (k : Nat) (r : Int32) (cd : Int32) (hcd : (k = 0 ∧ cd = 0) ∨ (k = 1 ∧ cd = 1)) (hm : f_X8_storm rf a0 u1 u2 σ = some (k, r, σ')) : Met l yL_storm (Cond.codeWith yL_storm cL_storm 5 (some .int) [(0, 10, 13, 13)] :: rc_big) ({ frames := 8, cells := 1, slots := 6, locals := 124 } : Room) (rc_PL Y sh rf σ sz (rc_lo dL q3 f) [(dL, .long)] [.ref a0, .int u1, .int u2, .ref q3]) (va_Qi (fun (r' : Int32) (f' : Nat → Int64) => r' = cd ∧ (k = 0 → f' 0 = r.toInt64)) (fun f' t => rc_W Y sh rf σ' t.heap ∧ va_P Y.2.1 vwCl (rc_lo dL q3 f') t.heap) (rc_A2 sh q3 sz)) 1 6 (rc_A2 sh q3 sz) := by
  refine va_MetW (cc := cL_storm) (maxL := 5) (ret := (some .int)) (hh := [(0, 10, 13, 13)]) (by decide +kernel) rfl ?_
  intro p e s m args below meth c s₁ B hml hv
  obtain ⟨rfl, hsz, ⟨hW, hK, hE⟩, hO, hK2, hN⟩ := hv
  have hx := B.exec
  have hb := B.bytes
  have hr := B.returns
  have hts0 : ∀ w ∈ (Cond.codeWith yL_storm cL_storm 5 (some .int) [(0, 10, 13, 13)] :: rc_big), w.before _ s = true := atoms_spec (ws := Cond.codeWith yL_storm cL_storm 5 (some .int) [(0, 10, 13, 13)] :: rc_big) B.pre
  have htab := vx_table (x := yL_storm) B (hts0 _ List.mem_cons_self)
  have hts : ∀ w ∈ rc_big, w.before _ s = true := fun w h => hts0 w (List.mem_cons_of_mem _ h)
  have hown : s.vm.findClass RL = some m.cls := findClass_of_methodNamed B.named
  have hlocks := B.notSynchronized
  clear B
  subst hsz
  have hS : va_S (rc_A sh s.heap.size) s.heap s.heap [] := va_S.rf
  have hl := lv_entry ([.ref a0, .int u1, .int u2, .ref q3]) (n := 5) (Nat.le_of_ble_eq_true rfl)
  rw [lg_entry_eq]
  generalize (lg_sl ([.ref a0, .int u1, .int u2, .ref q3]) ++ List.replicate (5 - (lg_sl ([.ref a0, .int u1, .int u2, .ref q3])).length) Slot.unset).toArray = ls at hl ⊢
  have hl : lv_has ls 5 [(0, .ref a0), (1, .int u1), (2, .int u2), (3, .ref q3)] := hl
  refine lv_aload_n hx hb dL_storm_0 rfl (lv_at hl 3 rfl) ?_
  refine lv_iconst (v := 0) hx hb dL_storm_1 (by decide) ?_
  refine lv_aload_n hx hb dL_storm_2 rfl (lv_at hl 0 rfl) ?_
  refine lv_iload_n hx hb dL_storm_3 rfl (lv_at hl 1 rfl) ?_
  refine lv_iload_n hx hb dL_storm_4 rfl (lv_at hl 2 rfl) ?_
  rcases hcd with ⟨hk, hc⟩ | ⟨hk, hc⟩
  · subst hk
    subst hc
    refine vx_calli (vx_runV (As := [.int u1, .int u2]) (rest := [.int 0, .ref q3]) ⟨hx, hb, hml, hown, hts⟩ (k_X8_storm l hl9 hT a0 u1 u2 h0 s.heap.size _ _ _ _ hm) (cwV 2 hts (rc_gV tw_4_77 tw_4_78 tw_4_79 tw_1_1 tw_4_80) rfl rfl rfl (by decide +kernel) ⟨Nat.le_of_ble_eq_true rfl, Nat.le_of_ble_eq_true rfl⟩) (rc_preV hT hW hK hE hS h0 (by decide) rfl (q := (RX8, TX8, 9)) rfl [.int u1, .int u2]) rfl rfl hl.1 rfl (lv_room (Nat.le_of_ble_eq_true rfl)) dL_storm_5 ⟨Nat.le_of_ble_eq_true rfl, Nat.le_of_ble_eq_true rfl⟩) hS rc_Ain (rc_Afr hS) rc_Ain (fun E ce q9 u t H locs ht _ hp _ _ _ _ _ _ _ => absurd rfl hp) (fun r1 u t H locs ht _ hp hW2 hz hq hS2 => ?_)
    obtain ⟨-, rfl⟩ := hp
    have hW := (show rc_W Y sh rf σ' H by rw [← ht]; exact hW2)
    clear hW2
    have hO := rc_Ok ho hO hq
    have hS := rc_S2 (o := q3) hS2
    clear hS2
    refine lv_i2l hx hb dL_storm_8 rfl ?_
    refine rc_last hx hb hK2 hO hW ho hS dL_storm_9 (fun H locs hO hW hS => ?_)
    refine lv_goto (tgt := 17) hx hb dL_storm_10 (by decide) ?_
    refine lv_iconst (v := 0) hx hb dL_storm_17 (by decide) ?_
    exact rc_wret (T := Nat → Int64) (wo := rc_lo dL q3) (post := fun f' => (0 : Nat) = 0 → f' 0 = r1.toInt64) hx hb hr hlocks hW hO hS (Nat.le_of_ble_eq_true rfl) (Nat.le_of_ble_eq_true rfl) rfl (fun _ => by simp [vp_updL]) dL_storm_18
  · subst hk
    subst hc
    refine vx_calli (vx_runV (As := [.int u1, .int u2]) (rest := [.int 0, .ref q3]) ⟨hx, hb, hml, hown, hts⟩ (k_X8_storm l hl9 hT a0 u1 u2 h0 s.heap.size _ _ _ _ hm) (cwV 2 hts (rc_gV tw_4_77 tw_4_78 tw_4_79 tw_1_1 tw_4_80) rfl rfl rfl (by decide +kernel) ⟨Nat.le_of_ble_eq_true rfl, Nat.le_of_ble_eq_true rfl⟩) (rc_preV hT hW hK hE hS h0 (by decide) rfl (q := (RX8, TX8, 9)) rfl [.int u1, .int u2]) rfl rfl hl.1 rfl (lv_room (Nat.le_of_ble_eq_true rfl)) dL_storm_5 ⟨Nat.le_of_ble_eq_true rfl, Nat.le_of_ble_eq_true rfl⟩) hS rc_Ain (rc_Afr hS) rc_Ain (fun E ce q9 u t H locs ht _ hp hB hz hq hS2 hce hcv hcl => ?_) (fun r1 u t H locs ht _ hp _ _ _ _ => absurd hp.1 (by decide))
    obtain ⟨hE1, hW2⟩ := hB
    have hW := (show rc_W Y sh rf σ' H by rw [← ht]; exact hW2)
    clear hW2
    have hO := rc_Ok ho hO hq
    have hS := rc_S2 (o := q3) hS2
    clear hS2
    have hE2 : E = "java/lang/UnsupportedOperationException" := hE1
    subst hE2
    refine vx_catch (name := "java/lang/UnsupportedOperationException") hown [] ⟨0, 10, 13, 13⟩ [] htab (fun z hz => nomatch hz) (by decide) (by decide) (hts _ tw_4_76) (va_Nw.use rfl (rc_E_nw hE _ nw_4_123)) hce hcv hcl ?_
    show W p l e _ s m _ below meth c H locs _ _ _ (F0 m 13 ls [.ref q9])
    refine lv_astore (lv' := [(4, .ref q9), (0, .ref a0), (1, .int u1), (2, .int u2), (3, .ref q3)]) hx hb dL_storm_13 hl (by decide) rfl (fun ls hl => ?_)
    refine lv_iconst (v := 1) hx hb dL_storm_15 (by decide) ?_
    exact rc_wret (T := Nat → Int64) (wo := rc_lo dL q3) (post := fun f' => (1 : Nat) = 0 → f' 0 = r.toInt64) hx hb hr hlocks hW hO hS (Nat.le_of_ble_eq_true rfl) (Nat.le_of_ble_eq_true rfl) rfl (fun h => nomatch h) dL_storm_16
set_option maxHeartbeats 4000000 in
set_option maxRecDepth 100000 in
theorem k_L_barrel (l : Launch) (hl9 : l.stackTraces = false) {Y : rc_Y} {sh : Nat → Nat} {rf : rc_F} (hT : rc_T Y sh rf) (a0 : Nat) (u1 : Int32) (q2 : Nat) (h0 : sh a0 = 9) (ho : sh q2 = 0) (dL : ClassId) (f : Nat → Int64) (sz : Nat) (σ σ' : rc_S) (k : Nat) (r : Int32) (cd : Int32) (hcd : (k = 0 ∧ cd = 0) ∨ (k = 1 ∧ cd = 1)) (hm : f_X8_barrel rf a0 u1 σ = some (k, r, σ')) : Met l yL_barrel (Cond.codeWith yL_barrel cL_barrel 4 (some .int) [(0, 9, 12, 13)] :: rc_big) ({ frames := 8, cells := 1, slots := 6, locals := 123 } : Room) (rc_PL Y sh rf σ sz (rc_lo dL q2 f) [(dL, .long)] [.ref a0, .int u1, .ref q2]) (va_Qi (fun (r' : Int32) (f' : Nat → Int64) => r' = cd ∧ (k = 0 → f' 0 = r.toInt64)) (fun f' t => rc_W Y sh rf σ' t.heap ∧ va_P Y.2.1 vwCl (rc_lo dL q2 f') t.heap) (rc_A2 sh q2 sz)) 1 6 (rc_A2 sh q2 sz) := by
  refine va_MetW (cc := cL_barrel) (maxL := 4) (ret := (some .int)) (hh := [(0, 9, 12, 13)]) (by decide +kernel) rfl ?_
  intro p e s m args below meth c s₁ B hml hv
  obtain ⟨rfl, hsz, ⟨hW, hK, hE⟩, hO, hK2, hN⟩ := hv
  have hx := B.exec
  have hb := B.bytes
  have hr := B.returns
  have hts0 : ∀ w ∈ (Cond.codeWith yL_barrel cL_barrel 4 (some .int) [(0, 9, 12, 13)] :: rc_big), w.before _ s = true := atoms_spec (ws := Cond.codeWith yL_barrel cL_barrel 4 (some .int) [(0, 9, 12, 13)] :: rc_big) B.pre
  have htab := vx_table (x := yL_barrel) B (hts0 _ List.mem_cons_self)
  have hts : ∀ w ∈ rc_big, w.before _ s = true := fun w h => hts0 w (List.mem_cons_of_mem _ h)
  have hown : s.vm.findClass RL = some m.cls := findClass_of_methodNamed B.named
  have hlocks := B.notSynchronized
  clear B
  subst hsz
  have hS : va_S (rc_A sh s.heap.size) s.heap s.heap [] := va_S.rf
  have hl := lv_entry ([.ref a0, .int u1, .ref q2]) (n := 4) (Nat.le_of_ble_eq_true rfl)
  rw [lg_entry_eq]
  generalize (lg_sl ([.ref a0, .int u1, .ref q2]) ++ List.replicate (4 - (lg_sl ([.ref a0, .int u1, .ref q2])).length) Slot.unset).toArray = ls at hl ⊢
  have hl : lv_has ls 4 [(0, .ref a0), (1, .int u1), (2, .ref q2)] := hl
  refine lv_aload_n hx hb dL_barrel_0 rfl (lv_at hl 2 rfl) ?_
  refine lv_iconst (v := 0) hx hb dL_barrel_1 (by decide) ?_
  refine lv_aload_n hx hb dL_barrel_2 rfl (lv_at hl 0 rfl) ?_
  refine lv_iload_n hx hb dL_barrel_3 rfl (lv_at hl 1 rfl) ?_
  rcases hcd with ⟨hk, hc⟩ | ⟨hk, hc⟩
  · subst hk
    subst hc
    refine vx_calli (vx_runV (As := [.int u1]) (rest := [.int 0, .ref q2]) ⟨hx, hb, hml, hown, hts⟩ (k_X8_barrel l hl9 hT a0 u1 h0 s.heap.size _ _ _ _ hm) (cwV 1 hts (rc_gV tw_4_145 tw_4_146 tw_4_147 tw_1_1 tw_4_148) rfl rfl rfl (by decide +kernel) ⟨Nat.le_of_ble_eq_true rfl, Nat.le_of_ble_eq_true rfl⟩) (rc_preV hT hW hK hE hS h0 (by decide) rfl (q := (RX8, TX8, 9)) rfl [.int u1]) rfl rfl hl.1 rfl (lv_room (Nat.le_of_ble_eq_true rfl)) dL_barrel_4 ⟨Nat.le_of_ble_eq_true rfl, Nat.le_of_ble_eq_true rfl⟩) hS rc_Ain (rc_Afr hS) rc_Ain (fun E ce q9 u t H locs ht _ hp _ _ _ _ _ _ _ => absurd rfl hp) (fun r1 u t H locs ht _ hp hW2 hz hq hS2 => ?_)
    obtain ⟨-, rfl⟩ := hp
    have hW := (show rc_W Y sh rf σ' H by rw [← ht]; exact hW2)
    clear hW2
    have hO := rc_Ok ho hO hq
    have hS := rc_S2 (o := q2) hS2
    clear hS2
    refine lv_i2l hx hb dL_barrel_7 rfl ?_
    refine rc_last hx hb hK2 hO hW ho hS dL_barrel_8 (fun H locs hO hW hS => ?_)
    refine lv_goto (tgt := 15) hx hb dL_barrel_9 (by decide) ?_
    refine lv_iconst (v := 0) hx hb dL_barrel_15 (by decide) ?_
    exact rc_wret (T := Nat → Int64) (wo := rc_lo dL q2) (post := fun f' => (0 : Nat) = 0 → f' 0 = r1.toInt64) hx hb hr hlocks hW hO hS (Nat.le_of_ble_eq_true rfl) (Nat.le_of_ble_eq_true rfl) rfl (fun _ => by simp [vp_updL]) dL_barrel_16
  · subst hk
    subst hc
    refine vx_calli (vx_runV (As := [.int u1]) (rest := [.int 0, .ref q2]) ⟨hx, hb, hml, hown, hts⟩ (k_X8_barrel l hl9 hT a0 u1 h0 s.heap.size _ _ _ _ hm) (cwV 1 hts (rc_gV tw_4_145 tw_4_146 tw_4_147 tw_1_1 tw_4_148) rfl rfl rfl (by decide +kernel) ⟨Nat.le_of_ble_eq_true rfl, Nat.le_of_ble_eq_true rfl⟩) (rc_preV hT hW hK hE hS h0 (by decide) rfl (q := (RX8, TX8, 9)) rfl [.int u1]) rfl rfl hl.1 rfl (lv_room (Nat.le_of_ble_eq_true rfl)) dL_barrel_4 ⟨Nat.le_of_ble_eq_true rfl, Nat.le_of_ble_eq_true rfl⟩) hS rc_Ain (rc_Afr hS) rc_Ain (fun E ce q9 u t H locs ht _ hp hB hz hq hS2 hce hcv hcl => ?_) (fun r1 u t H locs ht _ hp _ _ _ _ => absurd hp.1 (by decide))
    obtain ⟨hE1, hW2⟩ := hB
    have hW := (show rc_W Y sh rf σ' H by rw [← ht]; exact hW2)
    clear hW2
    have hO := rc_Ok ho hO hq
    have hS := rc_S2 (o := q2) hS2
    clear hS2
    have hE2 : E = "java/lang/UnsupportedOperationException" := hE1
    subst hE2
    refine vx_catch (name := "java/lang/UnsupportedOperationException") hown [] ⟨0, 9, 12, 13⟩ [] htab (fun z hz => nomatch hz) (by decide) (by decide) (hts _ tw_4_76) (va_Nw.use rfl (rc_E_nw hE _ nw_4_123)) hce hcv hcl ?_
    show W p l e _ s m _ below meth c H locs _ _ _ (F0 m 12 ls [.ref q9])
    refine lv_astore_n (lv' := [(3, .ref q9), (0, .ref a0), (1, .int u1), (2, .ref q2)]) hx hb dL_barrel_12 rfl hl (by decide) rfl (fun ls hl => ?_)
    refine lv_iconst (v := 1) hx hb dL_barrel_13 (by decide) ?_
    exact rc_wret (T := Nat → Int64) (wo := rc_lo dL q2) (post := fun f' => (1 : Nat) = 0 → f' 0 = r.toInt64) hx hb hr hlocks hW hO hS (Nat.le_of_ble_eq_true rfl) (Nat.le_of_ble_eq_true rfl) rfl (fun h => nomatch h) dL_barrel_14
set_option maxHeartbeats 4000000 in
set_option maxRecDepth 100000 in
theorem k_L_takeAway (l : Launch) (hl9 : l.stackTraces = false) {Y : rc_Y} {sh : Nat → Nat} {rf : rc_F} (hT : rc_T Y sh rf) (a0 : Nat) (u1 : Int32) (q2 : Nat) (h0 : sh a0 = 9) (ho : sh q2 = 0) (dL : ClassId) (f : Nat → Int64) (sz : Nat) (σ σ' : rc_S) (k : Nat) (r : Int32) (cd : Int32) (hcd : (k = 0 ∧ cd = 0) ∨ (k = 1 ∧ cd = 1)) (hm : f_X8_takeAway rf a0 u1 σ = some (k, r, σ')) : Met l yL_takeAway (Cond.codeWith yL_takeAway cL_takeAway 4 (some .int) [(0, 9, 12, 13)] :: rc_big) ({ frames := 8, cells := 1, slots := 6, locals := 123 } : Room) (rc_PL Y sh rf σ sz (rc_lo dL q2 f) [(dL, .long)] [.ref a0, .int u1, .ref q2]) (va_Qi (fun (r' : Int32) (f' : Nat → Int64) => r' = cd ∧ (k = 0 → f' 0 = r.toInt64)) (fun f' t => rc_W Y sh rf σ' t.heap ∧ va_P Y.2.1 vwCl (rc_lo dL q2 f') t.heap) (rc_A2 sh q2 sz)) 1 6 (rc_A2 sh q2 sz) := by
  refine va_MetW (cc := cL_takeAway) (maxL := 4) (ret := (some .int)) (hh := [(0, 9, 12, 13)]) (by decide +kernel) rfl ?_
  intro p e s m args below meth c s₁ B hml hv
  obtain ⟨rfl, hsz, ⟨hW, hK, hE⟩, hO, hK2, hN⟩ := hv
  have hx := B.exec
  have hb := B.bytes
  have hr := B.returns
  have hts0 : ∀ w ∈ (Cond.codeWith yL_takeAway cL_takeAway 4 (some .int) [(0, 9, 12, 13)] :: rc_big), w.before _ s = true := atoms_spec (ws := Cond.codeWith yL_takeAway cL_takeAway 4 (some .int) [(0, 9, 12, 13)] :: rc_big) B.pre
  have htab := vx_table (x := yL_takeAway) B (hts0 _ List.mem_cons_self)
  have hts : ∀ w ∈ rc_big, w.before _ s = true := fun w h => hts0 w (List.mem_cons_of_mem _ h)
  have hown : s.vm.findClass RL = some m.cls := findClass_of_methodNamed B.named
  have hlocks := B.notSynchronized
  clear B
  subst hsz
  have hS : va_S (rc_A sh s.heap.size) s.heap s.heap [] := va_S.rf
  have hl := lv_entry ([.ref a0, .int u1, .ref q2]) (n := 4) (Nat.le_of_ble_eq_true rfl)
  rw [lg_entry_eq]
  generalize (lg_sl ([.ref a0, .int u1, .ref q2]) ++ List.replicate (4 - (lg_sl ([.ref a0, .int u1, .ref q2])).length) Slot.unset).toArray = ls at hl ⊢
  have hl : lv_has ls 4 [(0, .ref a0), (1, .int u1), (2, .ref q2)] := hl
  refine lv_aload_n hx hb dL_takeAway_0 rfl (lv_at hl 2 rfl) ?_
  refine lv_iconst (v := 0) hx hb dL_takeAway_1 (by decide) ?_
  refine lv_aload_n hx hb dL_takeAway_2 rfl (lv_at hl 0 rfl) ?_
  refine lv_iload_n hx hb dL_takeAway_3 rfl (lv_at hl 1 rfl) ?_
  rcases hcd with ⟨hk, hc⟩ | ⟨hk, hc⟩
  · subst hk
    subst hc
    refine vx_calli (vx_runV (As := [.int u1]) (rest := [.int 0, .ref q2]) ⟨hx, hb, hml, hown, hts⟩ (k_X8_takeAway l hl9 hT a0 u1 h0 s.heap.size _ _ _ _ hm) (cwV 1 hts (rc_gV tw_4_164 tw_4_165 tw_4_166 tw_1_1 tw_4_167) rfl rfl rfl (by decide +kernel) ⟨Nat.le_of_ble_eq_true rfl, Nat.le_of_ble_eq_true rfl⟩) (rc_preV hT hW hK hE hS h0 (by decide) rfl (q := (RX8, TX8, 9)) rfl [.int u1]) rfl rfl hl.1 rfl (lv_room (Nat.le_of_ble_eq_true rfl)) dL_takeAway_4 ⟨Nat.le_of_ble_eq_true rfl, Nat.le_of_ble_eq_true rfl⟩) hS rc_Ain (rc_Afr hS) rc_Ain (fun E ce q9 u t H locs ht _ hp _ _ _ _ _ _ _ => absurd rfl hp) (fun r1 u t H locs ht _ hp hW2 hz hq hS2 => ?_)
    obtain ⟨-, rfl⟩ := hp
    have hW := (show rc_W Y sh rf σ' H by rw [← ht]; exact hW2)
    clear hW2
    have hO := rc_Ok ho hO hq
    have hS := rc_S2 (o := q2) hS2
    clear hS2
    refine lv_i2l hx hb dL_takeAway_7 rfl ?_
    refine rc_last hx hb hK2 hO hW ho hS dL_takeAway_8 (fun H locs hO hW hS => ?_)
    refine lv_goto (tgt := 15) hx hb dL_takeAway_9 (by decide) ?_
    refine lv_iconst (v := 0) hx hb dL_takeAway_15 (by decide) ?_
    exact rc_wret (T := Nat → Int64) (wo := rc_lo dL q2) (post := fun f' => (0 : Nat) = 0 → f' 0 = r1.toInt64) hx hb hr hlocks hW hO hS (Nat.le_of_ble_eq_true rfl) (Nat.le_of_ble_eq_true rfl) rfl (fun _ => by simp [vp_updL]) dL_takeAway_16
  · subst hk
    subst hc
    refine vx_calli (vx_runV (As := [.int u1]) (rest := [.int 0, .ref q2]) ⟨hx, hb, hml, hown, hts⟩ (k_X8_takeAway l hl9 hT a0 u1 h0 s.heap.size _ _ _ _ hm) (cwV 1 hts (rc_gV tw_4_164 tw_4_165 tw_4_166 tw_1_1 tw_4_167) rfl rfl rfl (by decide +kernel) ⟨Nat.le_of_ble_eq_true rfl, Nat.le_of_ble_eq_true rfl⟩) (rc_preV hT hW hK hE hS h0 (by decide) rfl (q := (RX8, TX8, 9)) rfl [.int u1]) rfl rfl hl.1 rfl (lv_room (Nat.le_of_ble_eq_true rfl)) dL_takeAway_4 ⟨Nat.le_of_ble_eq_true rfl, Nat.le_of_ble_eq_true rfl⟩) hS rc_Ain (rc_Afr hS) rc_Ain (fun E ce q9 u t H locs ht _ hp hB hz hq hS2 hce hcv hcl => ?_) (fun r1 u t H locs ht _ hp _ _ _ _ => absurd hp.1 (by decide))
    obtain ⟨hE1, hW2⟩ := hB
    have hW := (show rc_W Y sh rf σ' H by rw [← ht]; exact hW2)
    clear hW2
    have hO := rc_Ok ho hO hq
    have hS := rc_S2 (o := q2) hS2
    clear hS2
    have hE2 : E = "java/lang/UnsupportedOperationException" := hE1
    subst hE2
    refine vx_catch (name := "java/lang/UnsupportedOperationException") hown [] ⟨0, 9, 12, 13⟩ [] htab (fun z hz => nomatch hz) (by decide) (by decide) (hts _ tw_4_76) (va_Nw.use rfl (rc_E_nw hE _ nw_4_123)) hce hcv hcl ?_
    show W p l e _ s m _ below meth c H locs _ _ _ (F0 m 12 ls [.ref q9])
    refine lv_astore_n (lv' := [(3, .ref q9), (0, .ref a0), (1, .int u1), (2, .ref q2)]) hx hb dL_takeAway_12 rfl hl (by decide) rfl (fun ls hl => ?_)
    refine lv_iconst (v := 1) hx hb dL_takeAway_13 (by decide) ?_
    exact rc_wret (T := Nat → Int64) (wo := rc_lo dL q2) (post := fun f' => (1 : Nat) = 0 → f' 0 = r.toInt64) hx hb hr hlocks hW hO hS (Nat.le_of_ble_eq_true rfl) (Nat.le_of_ble_eq_true rfl) rfl (fun h => nomatch h) dL_takeAway_14
set_option maxHeartbeats 4000000 in
set_option maxRecDepth 100000 in
theorem k_L_pour (l : Launch) (hl9 : l.stackTraces = false) {Y : rc_Y} {sh : Nat → Nat} {rf : rc_F} (hT : rc_T Y sh rf) (a0 : Nat) (u1 : Int32) (u2 : Int32) (u3 : Int32) (q4 : Nat) (h0 : sh a0 = 9) (ho : sh q4 = 0) (dL : ClassId) (f : Nat → Int64) (sz : Nat) (σ σ' : rc_S) (k : Nat) (r : Int32) (cd : Int32) (hcd : (k = 0 ∧ cd = 0) ∨ (k = 1 ∧ cd = 1)) (hm : f_X8_pour rf a0 u1 u2 u3 σ = some (k, r, σ')) : Met l yL_pour (Cond.codeWith yL_pour cL_pour 6 (some .int) [(0, 12, 15, 13)] :: rc_big) ({ frames := 8, cells := 1, slots := 6, locals := 156 } : Room) (rc_PL Y sh rf σ sz (rc_lo dL q4 f) [(dL, .long)] [.ref a0, .int u1, .int u2, .int u3, .ref q4]) (va_Qi (fun (r' : Int32) (f' : Nat → Int64) => r' = cd ∧ (k = 0 → f' 0 = r.toInt64)) (fun f' t => rc_W Y sh rf σ' t.heap ∧ va_P Y.2.1 vwCl (rc_lo dL q4 f') t.heap) (rc_A2 sh q4 sz)) 1 6 (rc_A2 sh q4 sz) := by
  refine va_MetW (cc := cL_pour) (maxL := 6) (ret := (some .int)) (hh := [(0, 12, 15, 13)]) (by decide +kernel) rfl ?_
  intro p e s m args below meth c s₁ B hml hv
  obtain ⟨rfl, hsz, ⟨hW, hK, hE⟩, hO, hK2, hN⟩ := hv
  have hx := B.exec
  have hb := B.bytes
  have hr := B.returns
  have hts0 : ∀ w ∈ (Cond.codeWith yL_pour cL_pour 6 (some .int) [(0, 12, 15, 13)] :: rc_big), w.before _ s = true := atoms_spec (ws := Cond.codeWith yL_pour cL_pour 6 (some .int) [(0, 12, 15, 13)] :: rc_big) B.pre
  have htab := vx_table (x := yL_pour) B (hts0 _ List.mem_cons_self)
  have hts : ∀ w ∈ rc_big, w.before _ s = true := fun w h => hts0 w (List.mem_cons_of_mem _ h)
  have hown : s.vm.findClass RL = some m.cls := findClass_of_methodNamed B.named
  have hlocks := B.notSynchronized
  clear B
  subst hsz
  have hS : va_S (rc_A sh s.heap.size) s.heap s.heap [] := va_S.rf
  have hl := lv_entry ([.ref a0, .int u1, .int u2, .int u3, .ref q4]) (n := 6) (Nat.le_of_ble_eq_true rfl)
  rw [lg_entry_eq]
  generalize (lg_sl ([.ref a0, .int u1, .int u2, .int u3, .ref q4]) ++ List.replicate (6 - (lg_sl ([.ref a0, .int u1, .int u2, .int u3, .ref q4])).length) Slot.unset).toArray = ls at hl ⊢
  have hl : lv_has ls 6 [(0, .ref a0), (1, .int u1), (2, .int u2), (3, .int u3), (4, .ref q4)] := hl
  refine lv_aload hx hb dL_pour_0 (lv_at hl 4 rfl) ?_
  refine lv_iconst (v := 0) hx hb dL_pour_2 (by decide) ?_
  refine lv_aload_n hx hb dL_pour_3 rfl (lv_at hl 0 rfl) ?_
  refine lv_iload_n hx hb dL_pour_4 rfl (lv_at hl 1 rfl) ?_
  refine lv_iload_n hx hb dL_pour_5 rfl (lv_at hl 2 rfl) ?_
  refine lv_iload_n hx hb dL_pour_6 rfl (lv_at hl 3 rfl) ?_
  rcases hcd with ⟨hk, hc⟩ | ⟨hk, hc⟩
  · subst hk
    subst hc
    refine vx_calli (vx_runV (As := [.int u1, .int u2, .int u3]) (rest := [.int 0, .ref q4]) ⟨hx, hb, hml, hown, hts⟩ (k_X8_pour l hl9 hT a0 u1 u2 u3 h0 s.heap.size _ _ _ _ hm) (cwV 3 hts (rc_gV tw_4_183 tw_4_184 tw_4_185 tw_1_1 tw_4_186) rfl rfl rfl (by decide +kernel) ⟨Nat.le_of_ble_eq_true rfl, Nat.le_of_ble_eq_true rfl⟩) (rc_preV hT hW hK hE hS h0 (by decide) rfl (q := (RX8, TX8, 9)) rfl [.int u1, .int u2, .int u3]) rfl rfl hl.1 rfl (lv_room (Nat.le_of_ble_eq_true rfl)) dL_pour_7 ⟨Nat.le_of_ble_eq_true rfl, Nat.le_of_ble_eq_true rfl⟩) hS rc_Ain (rc_Afr hS) rc_Ain (fun E ce q9 u t H locs ht _ hp _ _ _ _ _ _ _ => absurd rfl hp) (fun r1 u t H locs ht _ hp hW2 hz hq hS2 => ?_)
    obtain ⟨-, rfl⟩ := hp
    have hW := (show rc_W Y sh rf σ' H by rw [← ht]; exact hW2)
    clear hW2
    have hO := rc_Ok ho hO hq
    have hS := rc_S2 (o := q4) hS2
    clear hS2
    refine lv_i2l hx hb dL_pour_10 rfl ?_
    refine rc_last hx hb hK2 hO hW ho hS dL_pour_11 (fun H locs hO hW hS => ?_)
    refine lv_goto (tgt := 19) hx hb dL_pour_12 (by decide) ?_
    refine lv_iconst (v := 0) hx hb dL_pour_19 (by decide) ?_
    exact rc_wret (T := Nat → Int64) (wo := rc_lo dL q4) (post := fun f' => (0 : Nat) = 0 → f' 0 = r1.toInt64) hx hb hr hlocks hW hO hS (Nat.le_of_ble_eq_true rfl) (Nat.le_of_ble_eq_true rfl) rfl (fun _ => by simp [vp_updL]) dL_pour_20
  · subst hk
    subst hc
    refine vx_calli (vx_runV (As := [.int u1, .int u2, .int u3]) (rest := [.int 0, .ref q4]) ⟨hx, hb, hml, hown, hts⟩ (k_X8_pour l hl9 hT a0 u1 u2 u3 h0 s.heap.size _ _ _ _ hm) (cwV 3 hts (rc_gV tw_4_183 tw_4_184 tw_4_185 tw_1_1 tw_4_186) rfl rfl rfl (by decide +kernel) ⟨Nat.le_of_ble_eq_true rfl, Nat.le_of_ble_eq_true rfl⟩) (rc_preV hT hW hK hE hS h0 (by decide) rfl (q := (RX8, TX8, 9)) rfl [.int u1, .int u2, .int u3]) rfl rfl hl.1 rfl (lv_room (Nat.le_of_ble_eq_true rfl)) dL_pour_7 ⟨Nat.le_of_ble_eq_true rfl, Nat.le_of_ble_eq_true rfl⟩) hS rc_Ain (rc_Afr hS) rc_Ain (fun E ce q9 u t H locs ht _ hp hB hz hq hS2 hce hcv hcl => ?_) (fun r1 u t H locs ht _ hp _ _ _ _ => absurd hp.1 (by decide))
    obtain ⟨hE1, hW2⟩ := hB
    have hW := (show rc_W Y sh rf σ' H by rw [← ht]; exact hW2)
    clear hW2
    have hO := rc_Ok ho hO hq
    have hS := rc_S2 (o := q4) hS2
    clear hS2
    have hE2 : E = "java/lang/UnsupportedOperationException" := hE1
    subst hE2
    refine vx_catch (name := "java/lang/UnsupportedOperationException") hown [] ⟨0, 12, 15, 13⟩ [] htab (fun z hz => nomatch hz) (by decide) (by decide) (hts _ tw_4_76) (va_Nw.use rfl (rc_E_nw hE _ nw_4_123)) hce hcv hcl ?_
    show W p l e _ s m _ below meth c H locs _ _ _ (F0 m 15 ls [.ref q9])
    refine lv_astore (lv' := [(5, .ref q9), (0, .ref a0), (1, .int u1), (2, .int u2), (3, .int u3), (4, .ref q4)]) hx hb dL_pour_15 hl (by decide) rfl (fun ls hl => ?_)
    refine lv_iconst (v := 1) hx hb dL_pour_17 (by decide) ?_
    exact rc_wret (T := Nat → Int64) (wo := rc_lo dL q4) (post := fun f' => (1 : Nat) = 0 → f' 0 = r.toInt64) hx hb hr hlocks hW hO hS (Nat.le_of_ble_eq_true rfl) (Nat.le_of_ble_eq_true rfl) rfl (fun h => nomatch h) dL_pour_18
set_option maxHeartbeats 4000000 in
set_option maxRecDepth 100000 in
theorem k_L_hail (l : Launch) (hl9 : l.stackTraces = false) {Y : rc_Y} {sh : Nat → Nat} {rf : rc_F} (hT : rc_T Y sh rf) (a0 : Nat) (u1 : Int32) (u2 : Int32) (q3 : Nat) (h0 : sh a0 = 9) (ho : sh q3 = 0) (dL : ClassId) (f : Nat → Int64) (sz : Nat) (σ σ' : rc_S) (k : Nat) (r : Int32) (cd : Int32) (hcd : (k = 0 ∧ cd = 0) ∨ (k = 1 ∧ cd = 1)) (hm : f_X8_hail rf a0 u1 u2 σ = some (k, r, σ')) : Met l yL_hail (Cond.codeWith yL_hail cL_hail 5 (some .int) [(0, 10, 13, 13)] :: rc_big) ({ frames := 8, cells := 1, slots := 6, locals := 124 } : Room) (rc_PL Y sh rf σ sz (rc_lo dL q3 f) [(dL, .long)] [.ref a0, .int u1, .int u2, .ref q3]) (va_Qi (fun (r' : Int32) (f' : Nat → Int64) => r' = cd ∧ (k = 0 → f' 0 = r.toInt64)) (fun f' t => rc_W Y sh rf σ' t.heap ∧ va_P Y.2.1 vwCl (rc_lo dL q3 f') t.heap) (rc_A2 sh q3 sz)) 1 6 (rc_A2 sh q3 sz) := by
  refine va_MetW (cc := cL_hail) (maxL := 5) (ret := (some .int)) (hh := [(0, 10, 13, 13)]) (by decide +kernel) rfl ?_
  intro p e s m args below meth c s₁ B hml hv
  obtain ⟨rfl, hsz, ⟨hW, hK, hE⟩, hO, hK2, hN⟩ := hv
  have hx := B.exec
  have hb := B.bytes
  have hr := B.returns
  have hts0 : ∀ w ∈ (Cond.codeWith yL_hail cL_hail 5 (some .int) [(0, 10, 13, 13)] :: rc_big), w.before _ s = true := atoms_spec (ws := Cond.codeWith yL_hail cL_hail 5 (some .int) [(0, 10, 13, 13)] :: rc_big) B.pre
  have htab := vx_table (x := yL_hail) B (hts0 _ List.mem_cons_self)
  have hts : ∀ w ∈ rc_big, w.before _ s = true := fun w h => hts0 w (List.mem_cons_of_mem _ h)
  have hown : s.vm.findClass RL = some m.cls := findClass_of_methodNamed B.named
  have hlocks := B.notSynchronized
  clear B
  subst hsz
  have hS : va_S (rc_A sh s.heap.size) s.heap s.heap [] := va_S.rf
  have hl := lv_entry ([.ref a0, .int u1, .int u2, .ref q3]) (n := 5) (Nat.le_of_ble_eq_true rfl)
  rw [lg_entry_eq]
  generalize (lg_sl ([.ref a0, .int u1, .int u2, .ref q3]) ++ List.replicate (5 - (lg_sl ([.ref a0, .int u1, .int u2, .ref q3])).length) Slot.unset).toArray = ls at hl ⊢
  have hl : lv_has ls 5 [(0, .ref a0), (1, .int u1), (2, .int u2), (3, .ref q3)] := hl
  refine lv_aload_n hx hb dL_hail_0 rfl (lv_at hl 3 rfl) ?_
  refine lv_iconst (v := 0) hx hb dL_hail_1 (by decide) ?_
  refine lv_aload_n hx hb dL_hail_2 rfl (lv_at hl 0 rfl) ?_
  refine lv_iload_n hx hb dL_hail_3 rfl (lv_at hl 1 rfl) ?_
  refine lv_iload_n hx hb dL_hail_4 rfl (lv_at hl 2 rfl) ?_
  rcases hcd with ⟨hk, hc⟩ | ⟨hk, hc⟩
  · subst hk
    subst hc
    refine vx_calli (vx_runV (As := [.int u1, .int u2]) (rest := [.int 0, .ref q3]) ⟨hx, hb, hml, hown, hts⟩ (k_X8_hail l hl9 hT a0 u1 u2 h0 s.heap.size _ _ _ _ hm) (cwV 2 hts (rc_gV tw_4_225 tw_4_226 tw_4_227 tw_1_1 tw_4_228) rfl rfl rfl (by decide +kernel) ⟨Nat.le_of_ble_eq_true rfl, Nat.le_of_ble_eq_true rfl⟩) (rc_preV hT hW hK hE hS h0 (by decide) rfl (q := (RX8, TX8, 9)) rfl [.int u1, .int u2]) rfl rfl hl.1 rfl (lv_room (Nat.le_of_ble_eq_true rfl)) dL_hail_5 ⟨Nat.le_of_ble_eq_true rfl, Nat.le_of_ble_eq_true rfl⟩) hS rc_Ain (rc_Afr hS) rc_Ain (fun E ce q9 u t H locs ht _ hp _ _ _ _ _ _ _ => absurd rfl hp) (fun r1 u t H locs ht _ hp hW2 hz hq hS2 => ?_)
    obtain ⟨-, rfl⟩ := hp
    have hW := (show rc_W Y sh rf σ' H by rw [← ht]; exact hW2)
    clear hW2
    have hO := rc_Ok ho hO hq
    have hS := rc_S2 (o := q3) hS2
    clear hS2
    refine lv_i2l hx hb dL_hail_8 rfl ?_
    refine rc_last hx hb hK2 hO hW ho hS dL_hail_9 (fun H locs hO hW hS => ?_)
    refine lv_goto (tgt := 17) hx hb dL_hail_10 (by decide) ?_
    refine lv_iconst (v := 0) hx hb dL_hail_17 (by decide) ?_
    exact rc_wret (T := Nat → Int64) (wo := rc_lo dL q3) (post := fun f' => (0 : Nat) = 0 → f' 0 = r1.toInt64) hx hb hr hlocks hW hO hS (Nat.le_of_ble_eq_true rfl) (Nat.le_of_ble_eq_true rfl) rfl (fun _ => by simp [vp_updL]) dL_hail_18
  · subst hk
    subst hc
    refine vx_calli (vx_runV (As := [.int u1, .int u2]) (rest := [.int 0, .ref q3]) ⟨hx, hb, hml, hown, hts⟩ (k_X8_hail l hl9 hT a0 u1 u2 h0 s.heap.size _ _ _ _ hm) (cwV 2 hts (rc_gV tw_4_225 tw_4_226 tw_4_227 tw_1_1 tw_4_228) rfl rfl rfl (by decide +kernel) ⟨Nat.le_of_ble_eq_true rfl, Nat.le_of_ble_eq_true rfl⟩) (rc_preV hT hW hK hE hS h0 (by decide) rfl (q := (RX8, TX8, 9)) rfl [.int u1, .int u2]) rfl rfl hl.1 rfl (lv_room (Nat.le_of_ble_eq_true rfl)) dL_hail_5 ⟨Nat.le_of_ble_eq_true rfl, Nat.le_of_ble_eq_true rfl⟩) hS rc_Ain (rc_Afr hS) rc_Ain (fun E ce q9 u t H locs ht _ hp hB hz hq hS2 hce hcv hcl => ?_) (fun r1 u t H locs ht _ hp _ _ _ _ => absurd hp.1 (by decide))
    obtain ⟨hE1, hW2⟩ := hB
    have hW := (show rc_W Y sh rf σ' H by rw [← ht]; exact hW2)
    clear hW2
    have hO := rc_Ok ho hO hq
    have hS := rc_S2 (o := q3) hS2
    clear hS2
    have hE2 : E = "java/lang/UnsupportedOperationException" := hE1
    subst hE2
    refine vx_catch (name := "java/lang/UnsupportedOperationException") hown [] ⟨0, 10, 13, 13⟩ [] htab (fun z hz => nomatch hz) (by decide) (by decide) (hts _ tw_4_76) (va_Nw.use rfl (rc_E_nw hE _ nw_4_123)) hce hcv hcl ?_
    show W p l e _ s m _ below meth c H locs _ _ _ (F0 m 13 ls [.ref q9])
    refine lv_astore (lv' := [(4, .ref q9), (0, .ref a0), (1, .int u1), (2, .int u2), (3, .ref q3)]) hx hb dL_hail_13 hl (by decide) rfl (fun ls hl => ?_)
    refine lv_iconst (v := 1) hx hb dL_hail_15 (by decide) ?_
    exact rc_wret (T := Nat → Int64) (wo := rc_lo dL q3) (post := fun f' => (1 : Nat) = 0 → f' 0 = r.toInt64) hx hb hr hlocks hW hO hS (Nat.le_of_ble_eq_true rfl) (Nat.le_of_ble_eq_true rfl) rfl (fun h => nomatch h) dL_hail_16
set_option maxHeartbeats 4000000 in
set_option maxRecDepth 100000 in
theorem k_L_sommelier (l : Launch) (hl9 : l.stackTraces = false) {Y : rc_Y} {sh : Nat → Nat} {rf : rc_F} (hT : rc_T Y sh rf) (a0 : Nat) (u1 : Int32) (u2 : Int32) (q3 : Nat) (h0 : sh a0 = 9) (ho : sh q3 = 0) (dL : ClassId) (f : Nat → Int64) (sz : Nat) (σ σ' : rc_S) (k : Nat) (r : Int32) (cd : Int32) (hcd : (k = 0 ∧ cd = 0) ∨ (k = 1 ∧ cd = 1)) (hm : f_X8_sommelier rf a0 u1 u2 σ = some (k, r, σ')) : Met l yL_sommelier (Cond.codeWith yL_sommelier cL_sommelier 5 (some .int) [(0, 10, 13, 13)] :: rc_big) ({ frames := 8, cells := 1, slots := 6, locals := 124 } : Room) (rc_PL Y sh rf σ sz (rc_lo dL q3 f) [(dL, .long)] [.ref a0, .int u1, .int u2, .ref q3]) (va_Qi (fun (r' : Int32) (f' : Nat → Int64) => r' = cd ∧ (k = 0 → f' 0 = r.toInt64)) (fun f' t => rc_W Y sh rf σ' t.heap ∧ va_P Y.2.1 vwCl (rc_lo dL q3 f') t.heap) (rc_A2 sh q3 sz)) 1 6 (rc_A2 sh q3 sz) := by
  refine va_MetW (cc := cL_sommelier) (maxL := 5) (ret := (some .int)) (hh := [(0, 10, 13, 13)]) (by decide +kernel) rfl ?_
  intro p e s m args below meth c s₁ B hml hv
  obtain ⟨rfl, hsz, ⟨hW, hK, hE⟩, hO, hK2, hN⟩ := hv
  have hx := B.exec
  have hb := B.bytes
  have hr := B.returns
  have hts0 : ∀ w ∈ (Cond.codeWith yL_sommelier cL_sommelier 5 (some .int) [(0, 10, 13, 13)] :: rc_big), w.before _ s = true := atoms_spec (ws := Cond.codeWith yL_sommelier cL_sommelier 5 (some .int) [(0, 10, 13, 13)] :: rc_big) B.pre
  have htab := vx_table (x := yL_sommelier) B (hts0 _ List.mem_cons_self)
  have hts : ∀ w ∈ rc_big, w.before _ s = true := fun w h => hts0 w (List.mem_cons_of_mem _ h)
  have hown : s.vm.findClass RL = some m.cls := findClass_of_methodNamed B.named
  have hlocks := B.notSynchronized
  clear B
  subst hsz
  have hS : va_S (rc_A sh s.heap.size) s.heap s.heap [] := va_S.rf
  have hl := lv_entry ([.ref a0, .int u1, .int u2, .ref q3]) (n := 5) (Nat.le_of_ble_eq_true rfl)
  rw [lg_entry_eq]
  generalize (lg_sl ([.ref a0, .int u1, .int u2, .ref q3]) ++ List.replicate (5 - (lg_sl ([.ref a0, .int u1, .int u2, .ref q3])).length) Slot.unset).toArray = ls at hl ⊢
  have hl : lv_has ls 5 [(0, .ref a0), (1, .int u1), (2, .int u2), (3, .ref q3)] := hl
  refine lv_aload_n hx hb dL_sommelier_0 rfl (lv_at hl 3 rfl) ?_
  refine lv_iconst (v := 0) hx hb dL_sommelier_1 (by decide) ?_
  refine lv_aload_n hx hb dL_sommelier_2 rfl (lv_at hl 0 rfl) ?_
  refine lv_iload_n hx hb dL_sommelier_3 rfl (lv_at hl 1 rfl) ?_
  refine lv_iload_n hx hb dL_sommelier_4 rfl (lv_at hl 2 rfl) ?_
  rcases hcd with ⟨hk, hc⟩ | ⟨hk, hc⟩
  · subst hk
    subst hc
    refine vx_calli (vx_runV (As := [.int u1, .int u2]) (rest := [.int 0, .ref q3]) ⟨hx, hb, hml, hown, hts⟩ (k_X8_sommelier l hl9 hT a0 u1 u2 h0 s.heap.size _ _ _ _ hm) (cwV 2 hts (rc_gV tw_4_237 tw_4_238 tw_4_239 tw_1_1 tw_5_0) rfl rfl rfl (by decide +kernel) ⟨Nat.le_of_ble_eq_true rfl, Nat.le_of_ble_eq_true rfl⟩) (rc_preV hT hW hK hE hS h0 (by decide) rfl (q := (RX8, TX8, 9)) rfl [.int u1, .int u2]) rfl rfl hl.1 rfl (lv_room (Nat.le_of_ble_eq_true rfl)) dL_sommelier_5 ⟨Nat.le_of_ble_eq_true rfl, Nat.le_of_ble_eq_true rfl⟩) hS rc_Ain (rc_Afr hS) rc_Ain (fun E ce q9 u t H locs ht _ hp _ _ _ _ _ _ _ => absurd rfl hp) (fun r1 u t H locs ht _ hp hW2 hz hq hS2 => ?_)
    obtain ⟨-, rfl⟩ := hp
    have hW := (show rc_W Y sh rf σ' H by rw [← ht]; exact hW2)
    clear hW2
    have hO := rc_Ok ho hO hq
    have hS := rc_S2 (o := q3) hS2
    clear hS2
    refine lv_i2l hx hb dL_sommelier_8 rfl ?_
    refine rc_last hx hb hK2 hO hW ho hS dL_sommelier_9 (fun H locs hO hW hS => ?_)
    refine lv_goto (tgt := 17) hx hb dL_sommelier_10 (by decide) ?_
    refine lv_iconst (v := 0) hx hb dL_sommelier_17 (by decide) ?_
    exact rc_wret (T := Nat → Int64) (wo := rc_lo dL q3) (post := fun f' => (0 : Nat) = 0 → f' 0 = r1.toInt64) hx hb hr hlocks hW hO hS (Nat.le_of_ble_eq_true rfl) (Nat.le_of_ble_eq_true rfl) rfl (fun _ => by simp [vp_updL]) dL_sommelier_18
  · subst hk
    subst hc
    refine vx_calli (vx_runV (As := [.int u1, .int u2]) (rest := [.int 0, .ref q3]) ⟨hx, hb, hml, hown, hts⟩ (k_X8_sommelier l hl9 hT a0 u1 u2 h0 s.heap.size _ _ _ _ hm) (cwV 2 hts (rc_gV tw_4_237 tw_4_238 tw_4_239 tw_1_1 tw_5_0) rfl rfl rfl (by decide +kernel) ⟨Nat.le_of_ble_eq_true rfl, Nat.le_of_ble_eq_true rfl⟩) (rc_preV hT hW hK hE hS h0 (by decide) rfl (q := (RX8, TX8, 9)) rfl [.int u1, .int u2]) rfl rfl hl.1 rfl (lv_room (Nat.le_of_ble_eq_true rfl)) dL_sommelier_5 ⟨Nat.le_of_ble_eq_true rfl, Nat.le_of_ble_eq_true rfl⟩) hS rc_Ain (rc_Afr hS) rc_Ain (fun E ce q9 u t H locs ht _ hp hB hz hq hS2 hce hcv hcl => ?_) (fun r1 u t H locs ht _ hp _ _ _ _ => absurd hp.1 (by decide))
    obtain ⟨hE1, hW2⟩ := hB
    have hW := (show rc_W Y sh rf σ' H by rw [← ht]; exact hW2)
    clear hW2
    have hO := rc_Ok ho hO hq
    have hS := rc_S2 (o := q3) hS2
    clear hS2
    have hE2 : E = "java/lang/UnsupportedOperationException" := hE1
    subst hE2
    refine vx_catch (name := "java/lang/UnsupportedOperationException") hown [] ⟨0, 10, 13, 13⟩ [] htab (fun z hz => nomatch hz) (by decide) (by decide) (hts _ tw_4_76) (va_Nw.use rfl (rc_E_nw hE _ nw_4_123)) hce hcv hcl ?_
    show W p l e _ s m _ below meth c H locs _ _ _ (F0 m 13 ls [.ref q9])
    refine lv_astore (lv' := [(4, .ref q9), (0, .ref a0), (1, .int u1), (2, .int u2), (3, .ref q3)]) hx hb dL_sommelier_13 hl (by decide) rfl (fun ls hl => ?_)
    refine lv_iconst (v := 1) hx hb dL_sommelier_15 (by decide) ?_
    exact rc_wret (T := Nat → Int64) (wo := rc_lo dL q3) (post := fun f' => (1 : Nat) = 0 → f' 0 = r.toInt64) hx hb hr hlocks hW hO hS (Nat.le_of_ble_eq_true rfl) (Nat.le_of_ble_eq_true rfl) rfl (fun h => nomatch h) dL_sommelier_16
set_option maxHeartbeats 4000000 in
set_option maxRecDepth 100000 in
theorem k_L_leave (l : Launch) (hl9 : l.stackTraces = false) {Y : rc_Y} {sh : Nat → Nat} {rf : rc_F} (hT : rc_T Y sh rf) (a0 : Nat) (u1 : Int32) (q2 : Nat) (h0 : sh a0 = 9) (ho : sh q2 = 0) (dL : ClassId) (f : Nat → Int64) (sz : Nat) (σ σ' : rc_S) (k : Nat) (r : Int32) (cd : Int32) (hcd : (k = 0 ∧ cd = 0) ∨ (k = 1 ∧ cd = 1)) (hm : f_X8_leave rf a0 u1 σ = some (k, r, σ')) : Met l yL_leave (Cond.codeWith yL_leave cL_leave 4 (some .int) [(0, 9, 12, 13)] :: rc_big) ({ frames := 8, cells := 1, slots := 6, locals := 123 } : Room) (rc_PL Y sh rf σ sz (rc_lo dL q2 f) [(dL, .long)] [.ref a0, .int u1, .ref q2]) (va_Qi (fun (r' : Int32) (f' : Nat → Int64) => r' = cd ∧ (k = 0 → f' 0 = r.toInt64)) (fun f' t => rc_W Y sh rf σ' t.heap ∧ va_P Y.2.1 vwCl (rc_lo dL q2 f') t.heap) (rc_A2 sh q2 sz)) 1 6 (rc_A2 sh q2 sz) := by
  refine va_MetW (cc := cL_leave) (maxL := 4) (ret := (some .int)) (hh := [(0, 9, 12, 13)]) (by decide +kernel) rfl ?_
  intro p e s m args below meth c s₁ B hml hv
  obtain ⟨rfl, hsz, ⟨hW, hK, hE⟩, hO, hK2, hN⟩ := hv
  have hx := B.exec
  have hb := B.bytes
  have hr := B.returns
  have hts0 : ∀ w ∈ (Cond.codeWith yL_leave cL_leave 4 (some .int) [(0, 9, 12, 13)] :: rc_big), w.before _ s = true := atoms_spec (ws := Cond.codeWith yL_leave cL_leave 4 (some .int) [(0, 9, 12, 13)] :: rc_big) B.pre
  have htab := vx_table (x := yL_leave) B (hts0 _ List.mem_cons_self)
  have hts : ∀ w ∈ rc_big, w.before _ s = true := fun w h => hts0 w (List.mem_cons_of_mem _ h)
  have hown : s.vm.findClass RL = some m.cls := findClass_of_methodNamed B.named
  have hlocks := B.notSynchronized
  clear B
  subst hsz
  have hS : va_S (rc_A sh s.heap.size) s.heap s.heap [] := va_S.rf
  have hl := lv_entry ([.ref a0, .int u1, .ref q2]) (n := 4) (Nat.le_of_ble_eq_true rfl)
  rw [lg_entry_eq]
  generalize (lg_sl ([.ref a0, .int u1, .ref q2]) ++ List.replicate (4 - (lg_sl ([.ref a0, .int u1, .ref q2])).length) Slot.unset).toArray = ls at hl ⊢
  have hl : lv_has ls 4 [(0, .ref a0), (1, .int u1), (2, .ref q2)] := hl
  refine lv_aload_n hx hb dL_leave_0 rfl (lv_at hl 2 rfl) ?_
  refine lv_iconst (v := 0) hx hb dL_leave_1 (by decide) ?_
  refine lv_aload_n hx hb dL_leave_2 rfl (lv_at hl 0 rfl) ?_
  refine lv_iload_n hx hb dL_leave_3 rfl (lv_at hl 1 rfl) ?_
  rcases hcd with ⟨hk, hc⟩ | ⟨hk, hc⟩
  · subst hk
    subst hc
    refine vx_calli (vx_runV (As := [.int u1]) (rest := [.int 0, .ref q2]) ⟨hx, hb, hml, hown, hts⟩ (k_X8_leave l hl9 hT a0 u1 h0 s.heap.size _ _ _ _ hm) (cwV 1 hts (rc_gV tw_5_12 tw_5_13 tw_5_14 tw_1_1 tw_5_15) rfl rfl rfl (by decide +kernel) ⟨Nat.le_of_ble_eq_true rfl, Nat.le_of_ble_eq_true rfl⟩) (rc_preV hT hW hK hE hS h0 (by decide) rfl (q := (RX8, TX8, 9)) rfl [.int u1]) rfl rfl hl.1 rfl (lv_room (Nat.le_of_ble_eq_true rfl)) dL_leave_4 ⟨Nat.le_of_ble_eq_true rfl, Nat.le_of_ble_eq_true rfl⟩) hS rc_Ain (rc_Afr hS) rc_Ain (fun E ce q9 u t H locs ht _ hp _ _ _ _ _ _ _ => absurd rfl hp) (fun r1 u t H locs ht _ hp hW2 hz hq hS2 => ?_)
    obtain ⟨-, rfl⟩ := hp
    have hW := (show rc_W Y sh rf σ' H by rw [← ht]; exact hW2)
    clear hW2
    have hO := rc_Ok ho hO hq
    have hS := rc_S2 (o := q2) hS2
    clear hS2
    refine lv_i2l hx hb dL_leave_7 rfl ?_
    refine rc_last hx hb hK2 hO hW ho hS dL_leave_8 (fun H locs hO hW hS => ?_)
    refine lv_goto (tgt := 15) hx hb dL_leave_9 (by decide) ?_
    refine lv_iconst (v := 0) hx hb dL_leave_15 (by decide) ?_
    exact rc_wret (T := Nat → Int64) (wo := rc_lo dL q2) (post := fun f' => (0 : Nat) = 0 → f' 0 = r1.toInt64) hx hb hr hlocks hW hO hS (Nat.le_of_ble_eq_true rfl) (Nat.le_of_ble_eq_true rfl) rfl (fun _ => by simp [vp_updL]) dL_leave_16
  · subst hk
    subst hc
    refine vx_calli (vx_runV (As := [.int u1]) (rest := [.int 0, .ref q2]) ⟨hx, hb, hml, hown, hts⟩ (k_X8_leave l hl9 hT a0 u1 h0 s.heap.size _ _ _ _ hm) (cwV 1 hts (rc_gV tw_5_12 tw_5_13 tw_5_14 tw_1_1 tw_5_15) rfl rfl rfl (by decide +kernel) ⟨Nat.le_of_ble_eq_true rfl, Nat.le_of_ble_eq_true rfl⟩) (rc_preV hT hW hK hE hS h0 (by decide) rfl (q := (RX8, TX8, 9)) rfl [.int u1]) rfl rfl hl.1 rfl (lv_room (Nat.le_of_ble_eq_true rfl)) dL_leave_4 ⟨Nat.le_of_ble_eq_true rfl, Nat.le_of_ble_eq_true rfl⟩) hS rc_Ain (rc_Afr hS) rc_Ain (fun E ce q9 u t H locs ht _ hp hB hz hq hS2 hce hcv hcl => ?_) (fun r1 u t H locs ht _ hp _ _ _ _ => absurd hp.1 (by decide))
    obtain ⟨hE1, hW2⟩ := hB
    have hW := (show rc_W Y sh rf σ' H by rw [← ht]; exact hW2)
    clear hW2
    have hO := rc_Ok ho hO hq
    have hS := rc_S2 (o := q2) hS2
    clear hS2
    have hE2 : E = "java/lang/UnsupportedOperationException" := hE1
    subst hE2
    refine vx_catch (name := "java/lang/UnsupportedOperationException") hown [] ⟨0, 9, 12, 13⟩ [] htab (fun z hz => nomatch hz) (by decide) (by decide) (hts _ tw_4_76) (va_Nw.use rfl (rc_E_nw hE _ nw_4_123)) hce hcv hcl ?_
    show W p l e _ s m _ below meth c H locs _ _ _ (F0 m 12 ls [.ref q9])
    refine lv_astore_n (lv' := [(3, .ref q9), (0, .ref a0), (1, .int u1), (2, .ref q2)]) hx hb dL_leave_12 rfl hl (by decide) rfl (fun ls hl => ?_)
    refine lv_iconst (v := 1) hx hb dL_leave_13 (by decide) ?_
    exact rc_wret (T := Nat → Int64) (wo := rc_lo dL q2) (post := fun f' => (1 : Nat) = 0 → f' 0 = r.toInt64) hx hb hr hlocks hW hO hS (Nat.le_of_ble_eq_true rfl) (Nat.le_of_ble_eq_true rfl) rfl (fun h => nomatch h) dL_leave_14
set_option maxHeartbeats 4000000 in
set_option maxRecDepth 100000 in
theorem k_L_drink (l : Launch) (hl9 : l.stackTraces = false) {Y : rc_Y} {sh : Nat → Nat} {rf : rc_F} (hT : rc_T Y sh rf) (a0 : Nat) (u1 : Int32) (q2 : Nat) (h0 : sh a0 = 9) (ho : sh q2 = 0) (dL : ClassId) (f : Nat → Int64) (sz : Nat) (σ σ' : rc_S) (k : Nat) (r : Int32) (cd : Int32) (hcd : (k = 0 ∧ cd = 0) ∨ (k = 1 ∧ cd = 1)) (hm : f_X8_drink rf a0 u1 σ = some (k, r, σ')) : Met l yL_drink (Cond.codeWith yL_drink cL_drink 4 (some .int) [(0, 9, 12, 13)] :: rc_big) ({ frames := 8, cells := 1, slots := 6, locals := 151 } : Room) (rc_PL Y sh rf σ sz (rc_lo dL q2 f) [(dL, .long)] [.ref a0, .int u1, .ref q2]) (va_Qi (fun (r' : Int32) (f' : Nat → Int64) => r' = cd ∧ (k = 0 → f' 0 = r.toInt64)) (fun f' t => rc_W Y sh rf σ' t.heap ∧ va_P Y.2.1 vwCl (rc_lo dL q2 f') t.heap) (rc_A2 sh q2 sz)) 1 6 (rc_A2 sh q2 sz) := by
  refine va_MetW (cc := cL_drink) (maxL := 4) (ret := (some .int)) (hh := [(0, 9, 12, 13)]) (by decide +kernel) rfl ?_
  intro p e s m args below meth c s₁ B hml hv
  obtain ⟨rfl, hsz, ⟨hW, hK, hE⟩, hO, hK2, hN⟩ := hv
  have hx := B.exec
  have hb := B.bytes
  have hr := B.returns
  have hts0 : ∀ w ∈ (Cond.codeWith yL_drink cL_drink 4 (some .int) [(0, 9, 12, 13)] :: rc_big), w.before _ s = true := atoms_spec (ws := Cond.codeWith yL_drink cL_drink 4 (some .int) [(0, 9, 12, 13)] :: rc_big) B.pre
  have htab := vx_table (x := yL_drink) B (hts0 _ List.mem_cons_self)
  have hts : ∀ w ∈ rc_big, w.before _ s = true := fun w h => hts0 w (List.mem_cons_of_mem _ h)
  have hown : s.vm.findClass RL = some m.cls := findClass_of_methodNamed B.named
  have hlocks := B.notSynchronized
  clear B
  subst hsz
  have hS : va_S (rc_A sh s.heap.size) s.heap s.heap [] := va_S.rf
  have hl := lv_entry ([.ref a0, .int u1, .ref q2]) (n := 4) (Nat.le_of_ble_eq_true rfl)
  rw [lg_entry_eq]
  generalize (lg_sl ([.ref a0, .int u1, .ref q2]) ++ List.replicate (4 - (lg_sl ([.ref a0, .int u1, .ref q2])).length) Slot.unset).toArray = ls at hl ⊢
  have hl : lv_has ls 4 [(0, .ref a0), (1, .int u1), (2, .ref q2)] := hl
  refine lv_aload_n hx hb dL_drink_0 rfl (lv_at hl 2 rfl) ?_
  refine lv_iconst (v := 0) hx hb dL_drink_1 (by decide) ?_
  refine lv_aload_n hx hb dL_drink_2 rfl (lv_at hl 0 rfl) ?_
  refine lv_iload_n hx hb dL_drink_3 rfl (lv_at hl 1 rfl) ?_
  rcases hcd with ⟨hk, hc⟩ | ⟨hk, hc⟩
  · subst hk
    subst hc
    refine vx_calli (vx_runV (As := [.int u1]) (rest := [.int 0, .ref q2]) ⟨hx, hb, hml, hown, hts⟩ (k_X8_drink l hl9 hT a0 u1 h0 s.heap.size _ _ _ _ hm) (cwV 1 hts (rc_gV tw_5_31 tw_5_32 tw_5_33 tw_1_1 tw_5_34) rfl rfl rfl (by decide +kernel) ⟨Nat.le_of_ble_eq_true rfl, Nat.le_of_ble_eq_true rfl⟩) (rc_preV hT hW hK hE hS h0 (by decide) rfl (q := (RX8, TX8, 9)) rfl [.int u1]) rfl rfl hl.1 rfl (lv_room (Nat.le_of_ble_eq_true rfl)) dL_drink_4 ⟨Nat.le_of_ble_eq_true rfl, Nat.le_of_ble_eq_true rfl⟩) hS rc_Ain (rc_Afr hS) rc_Ain (fun E ce q9 u t H locs ht _ hp _ _ _ _ _ _ _ => absurd rfl hp) (fun r1 u t H locs ht _ hp hW2 hz hq hS2 => ?_)
    obtain ⟨-, rfl⟩ := hp
    have hW := (show rc_W Y sh rf σ' H by rw [← ht]; exact hW2)
    clear hW2
    have hO := rc_Ok ho hO hq
    have hS := rc_S2 (o := q2) hS2
    clear hS2
    refine lv_i2l hx hb dL_drink_7 rfl ?_
    refine rc_last hx hb hK2 hO hW ho hS dL_drink_8 (fun H locs hO hW hS => ?_)
    refine lv_goto (tgt := 15) hx hb dL_drink_9 (by decide) ?_
    refine lv_iconst (v := 0) hx hb dL_drink_15 (by decide) ?_
    exact rc_wret (T := Nat → Int64) (wo := rc_lo dL q2) (post := fun f' => (0 : Nat) = 0 → f' 0 = r1.toInt64) hx hb hr hlocks hW hO hS (Nat.le_of_ble_eq_true rfl) (Nat.le_of_ble_eq_true rfl) rfl (fun _ => by simp [vp_updL]) dL_drink_16
  · subst hk
    subst hc
    refine vx_calli (vx_runV (As := [.int u1]) (rest := [.int 0, .ref q2]) ⟨hx, hb, hml, hown, hts⟩ (k_X8_drink l hl9 hT a0 u1 h0 s.heap.size _ _ _ _ hm) (cwV 1 hts (rc_gV tw_5_31 tw_5_32 tw_5_33 tw_1_1 tw_5_34) rfl rfl rfl (by decide +kernel) ⟨Nat.le_of_ble_eq_true rfl, Nat.le_of_ble_eq_true rfl⟩) (rc_preV hT hW hK hE hS h0 (by decide) rfl (q := (RX8, TX8, 9)) rfl [.int u1]) rfl rfl hl.1 rfl (lv_room (Nat.le_of_ble_eq_true rfl)) dL_drink_4 ⟨Nat.le_of_ble_eq_true rfl, Nat.le_of_ble_eq_true rfl⟩) hS rc_Ain (rc_Afr hS) rc_Ain (fun E ce q9 u t H locs ht _ hp hB hz hq hS2 hce hcv hcl => ?_) (fun r1 u t H locs ht _ hp _ _ _ _ => absurd hp.1 (by decide))
    obtain ⟨hE1, hW2⟩ := hB
    have hW := (show rc_W Y sh rf σ' H by rw [← ht]; exact hW2)
    clear hW2
    have hO := rc_Ok ho hO hq
    have hS := rc_S2 (o := q2) hS2
    clear hS2
    have hE2 : E = "java/lang/UnsupportedOperationException" := hE1
    subst hE2
    refine vx_catch (name := "java/lang/UnsupportedOperationException") hown [] ⟨0, 9, 12, 13⟩ [] htab (fun z hz => nomatch hz) (by decide) (by decide) (hts _ tw_4_76) (va_Nw.use rfl (rc_E_nw hE _ nw_4_123)) hce hcv hcl ?_
    show W p l e _ s m _ below meth c H locs _ _ _ (F0 m 12 ls [.ref q9])
    refine lv_astore_n (lv' := [(3, .ref q9), (0, .ref a0), (1, .int u1), (2, .ref q2)]) hx hb dL_drink_12 rfl hl (by decide) rfl (fun ls hl => ?_)
    refine lv_iconst (v := 1) hx hb dL_drink_13 (by decide) ?_
    exact rc_wret (T := Nat → Int64) (wo := rc_lo dL q2) (post := fun f' => (1 : Nat) = 0 → f' 0 = r.toInt64) hx hb hr hlocks hW hO hS (Nat.le_of_ble_eq_true rfl) (Nat.le_of_ble_eq_true rfl) rfl (fun h => nomatch h) dL_drink_14
set_option maxHeartbeats 4000000 in
set_option maxRecDepth 100000 in
theorem k_L_clear (l : Launch) (hl9 : l.stackTraces = false) {Y : rc_Y} {sh : Nat → Nat} {rf : rc_F} (hT : rc_T Y sh rf) (a0 : Nat) (u1 : Int32) (q2 : Nat) (h0 : sh a0 = 9) (ho : sh q2 = 0) (dL : ClassId) (f : Nat → Int64) (sz : Nat) (σ σ' : rc_S) (k : Nat) (r : Int32) (cd : Int32) (hcd : (k = 0 ∧ cd = 0) ∨ (k = 1 ∧ cd = 1)) (hm : f_X8_clear rf a0 u1 σ = some (k, r, σ')) : Met l yL_clear (Cond.codeWith yL_clear cL_clear 4 (some .int) [(0, 9, 12, 13)] :: rc_big) ({ frames := 8, cells := 1, slots := 6, locals := 123 } : Room) (rc_PL Y sh rf σ sz (rc_lo dL q2 f) [(dL, .long)] [.ref a0, .int u1, .ref q2]) (va_Qi (fun (r' : Int32) (f' : Nat → Int64) => r' = cd ∧ (k = 0 → f' 0 = r.toInt64)) (fun f' t => rc_W Y sh rf σ' t.heap ∧ va_P Y.2.1 vwCl (rc_lo dL q2 f') t.heap) (rc_A2 sh q2 sz)) 1 6 (rc_A2 sh q2 sz) := by
  refine va_MetW (cc := cL_clear) (maxL := 4) (ret := (some .int)) (hh := [(0, 9, 12, 13)]) (by decide +kernel) rfl ?_
  intro p e s m args below meth c s₁ B hml hv
  obtain ⟨rfl, hsz, ⟨hW, hK, hE⟩, hO, hK2, hN⟩ := hv
  have hx := B.exec
  have hb := B.bytes
  have hr := B.returns
  have hts0 : ∀ w ∈ (Cond.codeWith yL_clear cL_clear 4 (some .int) [(0, 9, 12, 13)] :: rc_big), w.before _ s = true := atoms_spec (ws := Cond.codeWith yL_clear cL_clear 4 (some .int) [(0, 9, 12, 13)] :: rc_big) B.pre
  have htab := vx_table (x := yL_clear) B (hts0 _ List.mem_cons_self)
  have hts : ∀ w ∈ rc_big, w.before _ s = true := fun w h => hts0 w (List.mem_cons_of_mem _ h)
  have hown : s.vm.findClass RL = some m.cls := findClass_of_methodNamed B.named
  have hlocks := B.notSynchronized
  clear B
  subst hsz
  have hS : va_S (rc_A sh s.heap.size) s.heap s.heap [] := va_S.rf
  have hl := lv_entry ([.ref a0, .int u1, .ref q2]) (n := 4) (Nat.le_of_ble_eq_true rfl)
  rw [lg_entry_eq]
  generalize (lg_sl ([.ref a0, .int u1, .ref q2]) ++ List.replicate (4 - (lg_sl ([.ref a0, .int u1, .ref q2])).length) Slot.unset).toArray = ls at hl ⊢
  have hl : lv_has ls 4 [(0, .ref a0), (1, .int u1), (2, .ref q2)] := hl
  refine lv_aload_n hx hb dL_clear_0 rfl (lv_at hl 2 rfl) ?_
  refine lv_iconst (v := 0) hx hb dL_clear_1 (by decide) ?_
  refine lv_aload_n hx hb dL_clear_2 rfl (lv_at hl 0 rfl) ?_
  refine lv_iload_n hx hb dL_clear_3 rfl (lv_at hl 1 rfl) ?_
  rcases hcd with ⟨hk, hc⟩ | ⟨hk, hc⟩
  · subst hk
    subst hc
    refine vx_calli (vx_runV (As := [.int u1]) (rest := [.int 0, .ref q2]) ⟨hx, hb, hml, hown, hts⟩ (k_X8_clear l hl9 hT a0 u1 h0 s.heap.size _ _ _ _ hm) (cwV 1 hts (rc_gV tw_5_76 tw_5_77 tw_5_78 tw_1_1 tw_5_79) rfl rfl rfl (by decide +kernel) ⟨Nat.le_of_ble_eq_true rfl, Nat.le_of_ble_eq_true rfl⟩) (rc_preV hT hW hK hE hS h0 (by decide) rfl (q := (RX8, TX8, 9)) rfl [.int u1]) rfl rfl hl.1 rfl (lv_room (Nat.le_of_ble_eq_true rfl)) dL_clear_4 ⟨Nat.le_of_ble_eq_true rfl, Nat.le_of_ble_eq_true rfl⟩) hS rc_Ain (rc_Afr hS) rc_Ain (fun E ce q9 u t H locs ht _ hp _ _ _ _ _ _ _ => absurd rfl hp) (fun r1 u t H locs ht _ hp hW2 hz hq hS2 => ?_)
    obtain ⟨-, rfl⟩ := hp
    have hW := (show rc_W Y sh rf σ' H by rw [← ht]; exact hW2)
    clear hW2
    have hO := rc_Ok ho hO hq
    have hS := rc_S2 (o := q2) hS2
    clear hS2
    refine lv_i2l hx hb dL_clear_7 rfl ?_
    refine rc_last hx hb hK2 hO hW ho hS dL_clear_8 (fun H locs hO hW hS => ?_)
    refine lv_goto (tgt := 15) hx hb dL_clear_9 (by decide) ?_
    refine lv_iconst (v := 0) hx hb dL_clear_15 (by decide) ?_
    exact rc_wret (T := Nat → Int64) (wo := rc_lo dL q2) (post := fun f' => (0 : Nat) = 0 → f' 0 = r1.toInt64) hx hb hr hlocks hW hO hS (Nat.le_of_ble_eq_true rfl) (Nat.le_of_ble_eq_true rfl) rfl (fun _ => by simp [vp_updL]) dL_clear_16
  · subst hk
    subst hc
    refine vx_calli (vx_runV (As := [.int u1]) (rest := [.int 0, .ref q2]) ⟨hx, hb, hml, hown, hts⟩ (k_X8_clear l hl9 hT a0 u1 h0 s.heap.size _ _ _ _ hm) (cwV 1 hts (rc_gV tw_5_76 tw_5_77 tw_5_78 tw_1_1 tw_5_79) rfl rfl rfl (by decide +kernel) ⟨Nat.le_of_ble_eq_true rfl, Nat.le_of_ble_eq_true rfl⟩) (rc_preV hT hW hK hE hS h0 (by decide) rfl (q := (RX8, TX8, 9)) rfl [.int u1]) rfl rfl hl.1 rfl (lv_room (Nat.le_of_ble_eq_true rfl)) dL_clear_4 ⟨Nat.le_of_ble_eq_true rfl, Nat.le_of_ble_eq_true rfl⟩) hS rc_Ain (rc_Afr hS) rc_Ain (fun E ce q9 u t H locs ht _ hp hB hz hq hS2 hce hcv hcl => ?_) (fun r1 u t H locs ht _ hp _ _ _ _ => absurd hp.1 (by decide))
    obtain ⟨hE1, hW2⟩ := hB
    have hW := (show rc_W Y sh rf σ' H by rw [← ht]; exact hW2)
    clear hW2
    have hO := rc_Ok ho hO hq
    have hS := rc_S2 (o := q2) hS2
    clear hS2
    have hE2 : E = "java/lang/UnsupportedOperationException" := hE1
    subst hE2
    refine vx_catch (name := "java/lang/UnsupportedOperationException") hown [] ⟨0, 9, 12, 13⟩ [] htab (fun z hz => nomatch hz) (by decide) (by decide) (hts _ tw_4_76) (va_Nw.use rfl (rc_E_nw hE _ nw_4_123)) hce hcv hcl ?_
    show W p l e _ s m _ below meth c H locs _ _ _ (F0 m 12 ls [.ref q9])
    refine lv_astore_n (lv' := [(3, .ref q9), (0, .ref a0), (1, .int u1), (2, .ref q2)]) hx hb dL_clear_12 rfl hl (by decide) rfl (fun ls hl => ?_)
    refine lv_iconst (v := 1) hx hb dL_clear_13 (by decide) ?_
    exact rc_wret (T := Nat → Int64) (wo := rc_lo dL q2) (post := fun f' => (1 : Nat) = 0 → f' 0 = r.toInt64) hx hb hr hlocks hW hO hS (Nat.le_of_ble_eq_true rfl) (Nat.le_of_ble_eq_true rfl) rfl (fun h => nomatch h) dL_clear_14
set_option maxHeartbeats 4000000 in
set_option maxRecDepth 100000 in
theorem k_L_roofOf (l : Launch) (hl9 : l.stackTraces = false) {Y : rc_Y} {sh : Nat → Nat} {rf : rc_F} (hT : rc_T Y sh rf) (a0 : Nat) (u1 : Int32) (u2 : Int32) (q3 : Nat) (h0 : sh a0 = 9) (ho : sh q3 = 0) (dL : ClassId) (f : Nat → Int64) (sz : Nat) (σ σ' : rc_S) (k : Nat) (r : Int32) (cd : Int32) (hcd : (k = 0 ∧ cd = 0) ∨ (k = 2 ∧ cd = 1) ∨ (k = 3 ∧ cd = 2)) (hm : f_X8_roofOf rf a0 u1 u2 σ = some (k, r, σ')) : Met l yL_roofOf (Cond.codeWith yL_roofOf cL_roofOf 5 (some .int) [(0, 10, 13, 45), (0, 10, 17, 47)] :: rc_big) ({ frames := 7, cells := 1, slots := 6, locals := 103 } : Room) (rc_PL Y sh rf σ sz (rc_lo dL q3 f) [(dL, .long)] [.ref a0, .int u1, .int u2, .ref q3]) (va_Qi (fun (r' : Int32) (f' : Nat → Int64) => r' = cd ∧ (k = 0 → f' 0 = r.toInt64)) (fun f' t => rc_W Y sh rf σ' t.heap ∧ va_P Y.2.1 vwCl (rc_lo dL q3 f') t.heap) (rc_A2 sh q3 sz)) 1 6 (rc_A2 sh q3 sz) := by
  refine va_MetW (cc := cL_roofOf) (maxL := 5) (ret := (some .int)) (hh := [(0, 10, 13, 45), (0, 10, 17, 47)]) (by decide +kernel) rfl ?_
  intro p e s m args below meth c s₁ B hml hv
  obtain ⟨rfl, hsz, ⟨hW, hK, hE⟩, hO, hK2, hN⟩ := hv
  have hx := B.exec
  have hb := B.bytes
  have hr := B.returns
  have hts0 : ∀ w ∈ (Cond.codeWith yL_roofOf cL_roofOf 5 (some .int) [(0, 10, 13, 45), (0, 10, 17, 47)] :: rc_big), w.before _ s = true := atoms_spec (ws := Cond.codeWith yL_roofOf cL_roofOf 5 (some .int) [(0, 10, 13, 45), (0, 10, 17, 47)] :: rc_big) B.pre
  have htab := vx_table (x := yL_roofOf) B (hts0 _ List.mem_cons_self)
  have hts : ∀ w ∈ rc_big, w.before _ s = true := fun w h => hts0 w (List.mem_cons_of_mem _ h)
  have hown : s.vm.findClass RL = some m.cls := findClass_of_methodNamed B.named
  have hlocks := B.notSynchronized
  clear B
  subst hsz
  have hS : va_S (rc_A sh s.heap.size) s.heap s.heap [] := va_S.rf
  have hl := lv_entry ([.ref a0, .int u1, .int u2, .ref q3]) (n := 5) (Nat.le_of_ble_eq_true rfl)
  rw [lg_entry_eq]
  generalize (lg_sl ([.ref a0, .int u1, .int u2, .ref q3]) ++ List.replicate (5 - (lg_sl ([.ref a0, .int u1, .int u2, .ref q3])).length) Slot.unset).toArray = ls at hl ⊢
  have hl : lv_has ls 5 [(0, .ref a0), (1, .int u1), (2, .int u2), (3, .ref q3)] := hl
  refine lv_aload_n hx hb dL_roofOf_0 rfl (lv_at hl 3 rfl) ?_
  refine lv_iconst (v := 0) hx hb dL_roofOf_1 (by decide) ?_
  refine lv_aload_n hx hb dL_roofOf_2 rfl (lv_at hl 0 rfl) ?_
  refine lv_iload_n hx hb dL_roofOf_3 rfl (lv_at hl 1 rfl) ?_
  refine lv_iload_n hx hb dL_roofOf_4 rfl (lv_at hl 2 rfl) ?_
  rcases hcd with ⟨hk, hc⟩ | ⟨hk, hc⟩ | ⟨hk, hc⟩
  · subst hk
    subst hc
    refine vx_calli (vx_runV (As := [.int u1, .int u2]) (rest := [.int 0, .ref q3]) ⟨hx, hb, hml, hown, hts⟩ (k_X8_roofOf l hl9 hT a0 u1 u2 h0 s.heap.size _ _ _ _ hm) (cwV 2 hts (rc_gV tw_5_91 tw_5_92 tw_5_93 tw_1_1 tw_5_94) rfl rfl rfl (by decide +kernel) ⟨Nat.le_of_ble_eq_true rfl, Nat.le_of_ble_eq_true rfl⟩) (rc_preV hT hW hK hE hS h0 (by decide) rfl (q := (RX8, TX8, 9)) rfl [.int u1, .int u2]) rfl rfl hl.1 rfl (lv_room (Nat.le_of_ble_eq_true rfl)) dL_roofOf_5 ⟨Nat.le_of_ble_eq_true rfl, Nat.le_of_ble_eq_true rfl⟩) hS rc_Ain (rc_Afr hS) rc_Ain (fun E ce q9 u t H locs ht _ hp _ _ _ _ _ _ _ => absurd rfl hp) (fun r1 u t H locs ht _ hp hW2 hz hq hS2 => ?_)
    obtain ⟨-, rfl⟩ := hp
    have hW := (show rc_W Y sh rf σ' H by rw [← ht]; exact hW2)
    clear hW2
    have hO := rc_Ok ho hO hq
    have hS := rc_S2 (o := q3) hS2
    clear hS2
    refine lv_i2l hx hb dL_roofOf_8 rfl ?_
    refine rc_last hx hb hK2 hO hW ho hS dL_roofOf_9 (fun H locs hO hW hS => ?_)
    refine lv_goto (tgt := 21) hx hb dL_roofOf_10 (by decide) ?_
    refine lv_iconst (v := 0) hx hb dL_roofOf_21 (by decide) ?_
    exact rc_wret (T := Nat → Int64) (wo := rc_lo dL q3) (post := fun f' => (0 : Nat) = 0 → f' 0 = r1.toInt64) hx hb hr hlocks hW hO hS (Nat.le_of_ble_eq_true rfl) (Nat.le_of_ble_eq_true rfl) rfl (fun _ => by simp [vp_updL]) dL_roofOf_22
  · subst hk
    subst hc
    refine vx_calli (vx_runV (As := [.int u1, .int u2]) (rest := [.int 0, .ref q3]) ⟨hx, hb, hml, hown, hts⟩ (k_X8_roofOf l hl9 hT a0 u1 u2 h0 s.heap.size _ _ _ _ hm) (cwV 2 hts (rc_gV tw_5_91 tw_5_92 tw_5_93 tw_1_1 tw_5_94) rfl rfl rfl (by decide +kernel) ⟨Nat.le_of_ble_eq_true rfl, Nat.le_of_ble_eq_true rfl⟩) (rc_preV hT hW hK hE hS h0 (by decide) rfl (q := (RX8, TX8, 9)) rfl [.int u1, .int u2]) rfl rfl hl.1 rfl (lv_room (Nat.le_of_ble_eq_true rfl)) dL_roofOf_5 ⟨Nat.le_of_ble_eq_true rfl, Nat.le_of_ble_eq_true rfl⟩) hS rc_Ain (rc_Afr hS) rc_Ain (fun E ce q9 u t H locs ht _ hp hB hz hq hS2 hce hcv hcl => ?_) (fun r1 u t H locs ht _ hp _ _ _ _ => absurd hp.1 (by decide))
    obtain ⟨hE1, hW2⟩ := hB
    have hW := (show rc_W Y sh rf σ' H by rw [← ht]; exact hW2)
    clear hW2
    have hO := rc_Ok ho hO hq
    have hS := rc_S2 (o := q3) hS2
    clear hS2
    have hE2 : E = "java/lang/IndexOutOfBoundsException" := hE1
    subst hE2
    refine vx_catch (name := "java/lang/IndexOutOfBoundsException") hown [] ⟨0, 10, 13, 45⟩ [⟨0, 10, 17, 47⟩] htab (fun z hz => nomatch hz) (by decide) (by decide) (hts _ tw_5_87) (va_Nw.use rfl (rc_E_nw hE _ nw_5_98)) hce hcv hcl ?_
    show W p l e _ s m _ below meth c H locs _ _ _ (F0 m 13 ls [.ref q9])
    refine lv_astore (lv' := [(4, .ref q9), (0, .ref a0), (1, .int u1), (2, .int u2), (3, .ref q3)]) hx hb dL_roofOf_13 hl (by decide) rfl (fun ls hl => ?_)
    refine lv_iconst (v := 1) hx hb dL_roofOf_15 (by decide) ?_
    exact rc_wret (T := Nat → Int64) (wo := rc_lo dL q3) (post := fun f' => (2 : Nat) = 0 → f' 0 = r.toInt64) hx hb hr hlocks hW hO hS (Nat.le_of_ble_eq_true rfl) (Nat.le_of_ble_eq_true rfl) rfl (fun h => nomatch h) dL_roofOf_16
  · subst hk
    subst hc
    refine vx_calli (vx_runV (As := [.int u1, .int u2]) (rest := [.int 0, .ref q3]) ⟨hx, hb, hml, hown, hts⟩ (k_X8_roofOf l hl9 hT a0 u1 u2 h0 s.heap.size _ _ _ _ hm) (cwV 2 hts (rc_gV tw_5_91 tw_5_92 tw_5_93 tw_1_1 tw_5_94) rfl rfl rfl (by decide +kernel) ⟨Nat.le_of_ble_eq_true rfl, Nat.le_of_ble_eq_true rfl⟩) (rc_preV hT hW hK hE hS h0 (by decide) rfl (q := (RX8, TX8, 9)) rfl [.int u1, .int u2]) rfl rfl hl.1 rfl (lv_room (Nat.le_of_ble_eq_true rfl)) dL_roofOf_5 ⟨Nat.le_of_ble_eq_true rfl, Nat.le_of_ble_eq_true rfl⟩) hS rc_Ain (rc_Afr hS) rc_Ain (fun E ce q9 u t H locs ht _ hp hB hz hq hS2 hce hcv hcl => ?_) (fun r1 u t H locs ht _ hp _ _ _ _ => absurd hp.1 (by decide))
    obtain ⟨hE1, hW2⟩ := hB
    have hW := (show rc_W Y sh rf σ' H by rw [← ht]; exact hW2)
    clear hW2
    have hO := rc_Ok ho hO hq
    have hS := rc_S2 (o := q3) hS2
    clear hS2
    have hE2 : E = "java/lang/IllegalArgumentException" := hE1
    subst hE2
    refine vx_catch (name := "java/lang/IllegalArgumentException") hown [⟨0, 10, 13, 45⟩] ⟨0, 10, 17, 47⟩ [] htab (List.forall_mem_cons.mpr ⟨Or.inr ⟨by decide, "java/lang/IndexOutOfBoundsException", hts _ tw_5_87, hN.1⟩, fun _ h => nomatch h⟩) (by decide) (by decide) (hts _ tw_5_90) (va_Nw.use rfl (rc_E_nw hE _ nw_3_135)) hce hcv hcl ?_
    show W p l e _ s m _ below meth c H locs _ _ _ (F0 m 17 ls [.ref q9])
    refine lv_astore (lv' := [(4, .ref q9), (0, .ref a0), (1, .int u1), (2, .int u2), (3, .ref q3)]) hx hb dL_roofOf_17 hl (by decide) rfl (fun ls hl => ?_)
    refine lv_iconst (v := 2) hx hb dL_roofOf_19 (by decide) ?_
    exact rc_wret (T := Nat → Int64) (wo := rc_lo dL q3) (post := fun f' => (3 : Nat) = 0 → f' 0 = r.toInt64) hx hb hr hlocks hW hO hS (Nat.le_of_ble_eq_true rfl) (Nat.le_of_ble_eq_true rfl) rfl (fun h => nomatch h) dL_roofOf_20
set_option maxHeartbeats 4000000 in
set_option maxRecDepth 100000 in
theorem k_L_barrelOf (l : Launch) (hl9 : l.stackTraces = false) {Y : rc_Y} {sh : Nat → Nat} {rf : rc_F} (hT : rc_T Y sh rf) (a0 : Nat) (u1 : Int32) (u2 : Int32) (q3 : Nat) (h0 : sh a0 = 9) (ho : sh q3 = 0) (dL : ClassId) (f : Nat → Int64) (sz : Nat) (σ σ' : rc_S) (k : Nat) (r : Int32) (cd : Int32) (hcd : (k = 0 ∧ cd = 0) ∨ (k = 2 ∧ cd = 1) ∨ (k = 3 ∧ cd = 2)) (hm : f_X8_barrelOf rf a0 u1 u2 σ = some (k, r, σ')) : Met l yL_barrelOf (Cond.codeWith yL_barrelOf cL_barrelOf 5 (some .int) [(0, 10, 13, 45), (0, 10, 17, 47)] :: rc_big) ({ frames := 8, cells := 2, slots := 12, locals := 125 } : Room) (rc_PL Y sh rf σ sz (rc_lo dL q3 f) [(dL, .long)] [.ref a0, .int u1, .int u2, .ref q3]) (va_Qi (fun (r' : Int32) (f' : Nat → Int64) => r' = cd ∧ (k = 0 → f' 0 = r.toInt64)) (fun f' t => rc_W Y sh rf σ' t.heap ∧ va_P Y.2.1 vwCl (rc_lo dL q3 f') t.heap) (rc_A2 sh q3 sz)) 2 12 (rc_A2 sh q3 sz) := by
  refine va_MetW (cc := cL_barrelOf) (maxL := 5) (ret := (some .int)) (hh := [(0, 10, 13, 45), (0, 10, 17, 47)]) (by decide +kernel) rfl ?_
  intro p e s m args below meth c s₁ B hml hv
  obtain ⟨rfl, hsz, ⟨hW, hK, hE⟩, hO, hK2, hN⟩ := hv
  have hx := B.exec
  have hb := B.bytes
  have hr := B.returns
  have hts0 : ∀ w ∈ (Cond.codeWith yL_barrelOf cL_barrelOf 5 (some .int) [(0, 10, 13, 45), (0, 10, 17, 47)] :: rc_big), w.before _ s = true := atoms_spec (ws := Cond.codeWith yL_barrelOf cL_barrelOf 5 (some .int) [(0, 10, 13, 45), (0, 10, 17, 47)] :: rc_big) B.pre
  have htab := vx_table (x := yL_barrelOf) B (hts0 _ List.mem_cons_self)
  have hts : ∀ w ∈ rc_big, w.before _ s = true := fun w h => hts0 w (List.mem_cons_of_mem _ h)
  have hown : s.vm.findClass RL = some m.cls := findClass_of_methodNamed B.named
  have hlocks := B.notSynchronized
  clear B
  subst hsz
  have hS : va_S (rc_A sh s.heap.size) s.heap s.heap [] := va_S.rf
  have hl := lv_entry ([.ref a0, .int u1, .int u2, .ref q3]) (n := 5) (Nat.le_of_ble_eq_true rfl)
  rw [lg_entry_eq]
  generalize (lg_sl ([.ref a0, .int u1, .int u2, .ref q3]) ++ List.replicate (5 - (lg_sl ([.ref a0, .int u1, .int u2, .ref q3])).length) Slot.unset).toArray = ls at hl ⊢
  have hl : lv_has ls 5 [(0, .ref a0), (1, .int u1), (2, .int u2), (3, .ref q3)] := hl
  refine lv_aload_n hx hb dL_barrelOf_0 rfl (lv_at hl 3 rfl) ?_
  refine lv_iconst (v := 0) hx hb dL_barrelOf_1 (by decide) ?_
  refine lv_aload_n hx hb dL_barrelOf_2 rfl (lv_at hl 0 rfl) ?_
  refine lv_iload_n hx hb dL_barrelOf_3 rfl (lv_at hl 1 rfl) ?_
  refine lv_iload_n hx hb dL_barrelOf_4 rfl (lv_at hl 2 rfl) ?_
  rcases hcd with ⟨hk, hc⟩ | ⟨hk, hc⟩ | ⟨hk, hc⟩
  · subst hk
    subst hc
    refine vx_calli (vx_runV (As := [.int u1, .int u2]) (rest := [.int 0, .ref q3]) ⟨hx, hb, hml, hown, hts⟩ (k_X8_barrelOf l hl9 hT a0 u1 u2 h0 s.heap.size _ _ _ _ hm) (cwV 2 hts (rc_gV tw_5_132 tw_5_133 tw_5_134 tw_1_1 tw_5_135) rfl rfl rfl (by decide +kernel) ⟨Nat.le_of_ble_eq_true rfl, Nat.le_of_ble_eq_true rfl⟩) (rc_preV hT hW hK hE hS h0 (by decide) rfl (q := (RX8, TX8, 9)) rfl [.int u1, .int u2]) rfl rfl hl.1 rfl (lv_room (Nat.le_of_ble_eq_true rfl)) dL_barrelOf_5 ⟨Nat.le_of_ble_eq_true rfl, Nat.le_of_ble_eq_true rfl⟩) hS rc_Ain (rc_Afr hS) rc_Ain (fun E ce q9 u t H locs ht _ hp _ _ _ _ _ _ _ => absurd rfl hp) (fun r1 u t H locs ht _ hp hW2 hz hq hS2 => ?_)
    obtain ⟨-, rfl⟩ := hp
    have hW := (show rc_W Y sh rf σ' H by rw [← ht]; exact hW2)
    clear hW2
    have hO := rc_Ok ho hO hq
    have hS := rc_S2 (o := q3) hS2
    clear hS2
    refine lv_i2l hx hb dL_barrelOf_8 rfl ?_
    refine rc_last hx hb hK2 hO hW ho hS dL_barrelOf_9 (fun H locs hO hW hS => ?_)
    refine lv_goto (tgt := 21) hx hb dL_barrelOf_10 (by decide) ?_
    refine lv_iconst (v := 0) hx hb dL_barrelOf_21 (by decide) ?_
    exact rc_wret (T := Nat → Int64) (wo := rc_lo dL q3) (post := fun f' => (0 : Nat) = 0 → f' 0 = r1.toInt64) hx hb hr hlocks hW hO hS (Nat.le_of_ble_eq_true rfl) (Nat.le_of_ble_eq_true rfl) rfl (fun _ => by simp [vp_updL]) dL_barrelOf_22
  · subst hk
    subst hc
    refine vx_calli (vx_runV (As := [.int u1, .int u2]) (rest := [.int 0, .ref q3]) ⟨hx, hb, hml, hown, hts⟩ (k_X8_barrelOf l hl9 hT a0 u1 u2 h0 s.heap.size _ _ _ _ hm) (cwV 2 hts (rc_gV tw_5_132 tw_5_133 tw_5_134 tw_1_1 tw_5_135) rfl rfl rfl (by decide +kernel) ⟨Nat.le_of_ble_eq_true rfl, Nat.le_of_ble_eq_true rfl⟩) (rc_preV hT hW hK hE hS h0 (by decide) rfl (q := (RX8, TX8, 9)) rfl [.int u1, .int u2]) rfl rfl hl.1 rfl (lv_room (Nat.le_of_ble_eq_true rfl)) dL_barrelOf_5 ⟨Nat.le_of_ble_eq_true rfl, Nat.le_of_ble_eq_true rfl⟩) hS rc_Ain (rc_Afr hS) rc_Ain (fun E ce q9 u t H locs ht _ hp hB hz hq hS2 hce hcv hcl => ?_) (fun r1 u t H locs ht _ hp _ _ _ _ => absurd hp.1 (by decide))
    obtain ⟨hE1, hW2⟩ := hB
    have hW := (show rc_W Y sh rf σ' H by rw [← ht]; exact hW2)
    clear hW2
    have hO := rc_Ok ho hO hq
    have hS := rc_S2 (o := q3) hS2
    clear hS2
    have hE2 : E = "java/lang/IndexOutOfBoundsException" := hE1
    subst hE2
    refine vx_catch (name := "java/lang/IndexOutOfBoundsException") hown [] ⟨0, 10, 13, 45⟩ [⟨0, 10, 17, 47⟩] htab (fun z hz => nomatch hz) (by decide) (by decide) (hts _ tw_5_87) (va_Nw.use rfl (rc_E_nw hE _ nw_5_98)) hce hcv hcl ?_
    show W p l e _ s m _ below meth c H locs _ _ _ (F0 m 13 ls [.ref q9])
    refine lv_astore (lv' := [(4, .ref q9), (0, .ref a0), (1, .int u1), (2, .int u2), (3, .ref q3)]) hx hb dL_barrelOf_13 hl (by decide) rfl (fun ls hl => ?_)
    refine lv_iconst (v := 1) hx hb dL_barrelOf_15 (by decide) ?_
    exact rc_wret (T := Nat → Int64) (wo := rc_lo dL q3) (post := fun f' => (2 : Nat) = 0 → f' 0 = r.toInt64) hx hb hr hlocks hW hO hS (Nat.le_of_ble_eq_true rfl) (Nat.le_of_ble_eq_true rfl) rfl (fun h => nomatch h) dL_barrelOf_16
  · subst hk
    subst hc
    refine vx_calli (vx_runV (As := [.int u1, .int u2]) (rest := [.int 0, .ref q3]) ⟨hx, hb, hml, hown, hts⟩ (k_X8_barrelOf l hl9 hT a0 u1 u2 h0 s.heap.size _ _ _ _ hm) (cwV 2 hts (rc_gV tw_5_132 tw_5_133 tw_5_134 tw_1_1 tw_5_135) rfl rfl rfl (by decide +kernel) ⟨Nat.le_of_ble_eq_true rfl, Nat.le_of_ble_eq_true rfl⟩) (rc_preV hT hW hK hE hS h0 (by decide) rfl (q := (RX8, TX8, 9)) rfl [.int u1, .int u2]) rfl rfl hl.1 rfl (lv_room (Nat.le_of_ble_eq_true rfl)) dL_barrelOf_5 ⟨Nat.le_of_ble_eq_true rfl, Nat.le_of_ble_eq_true rfl⟩) hS rc_Ain (rc_Afr hS) rc_Ain (fun E ce q9 u t H locs ht _ hp hB hz hq hS2 hce hcv hcl => ?_) (fun r1 u t H locs ht _ hp _ _ _ _ => absurd hp.1 (by decide))
    obtain ⟨hE1, hW2⟩ := hB
    have hW := (show rc_W Y sh rf σ' H by rw [← ht]; exact hW2)
    clear hW2
    have hO := rc_Ok ho hO hq
    have hS := rc_S2 (o := q3) hS2
    clear hS2
    have hE2 : E = "java/lang/IllegalArgumentException" := hE1
    subst hE2
    refine vx_catch (name := "java/lang/IllegalArgumentException") hown [⟨0, 10, 13, 45⟩] ⟨0, 10, 17, 47⟩ [] htab (List.forall_mem_cons.mpr ⟨Or.inr ⟨by decide, "java/lang/IndexOutOfBoundsException", hts _ tw_5_87, hN.1⟩, fun _ h => nomatch h⟩) (by decide) (by decide) (hts _ tw_5_90) (va_Nw.use rfl (rc_E_nw hE _ nw_3_135)) hce hcv hcl ?_
    show W p l e _ s m _ below meth c H locs _ _ _ (F0 m 17 ls [.ref q9])
    refine lv_astore (lv' := [(4, .ref q9), (0, .ref a0), (1, .int u1), (2, .int u2), (3, .ref q3)]) hx hb dL_barrelOf_17 hl (by decide) rfl (fun ls hl => ?_)
    refine lv_iconst (v := 2) hx hb dL_barrelOf_19 (by decide) ?_
    exact rc_wret (T := Nat → Int64) (wo := rc_lo dL q3) (post := fun f' => (3 : Nat) = 0 → f' 0 = r.toInt64) hx hb hr hlocks hW hO hS (Nat.le_of_ble_eq_true rfl) (Nat.le_of_ble_eq_true rfl) rfl (fun h => nomatch h) dL_barrelOf_20
set_option maxHeartbeats 4000000 in
set_option maxRecDepth 100000 in
theorem k_L_note (l : Launch) (hl9 : l.stackTraces = false) {Y : rc_Y} {sh : Nat → Nat} {rf : rc_F} (hT : rc_T Y sh rf) (a0 : Nat) (u1 : Int32) (q2 : Nat) (h0 : sh a0 = 9) (ho : sh q2 = 0) (dL : ClassId) (f : Nat → Int64) (sz : Nat) (σ σ' : rc_S) (k : Nat) (r : Int32) (cd : Int32) (hcd : (k = 0 ∧ cd = 0) ∨ (k = 2 ∧ cd = 1) ∨ (k = 4 ∧ cd = 2)) (hm : f_X8_note rf a0 u1 σ = some (k, r, σ')) : Met l yL_note (Cond.codeWith yL_note cL_note 4 (some .int) [(0, 9, 12, 45), (0, 9, 15, 55)] :: rc_big) ({ frames := 9, cells := 2, slots := 12, locals := 145 } : Room) (rc_PL Y sh rf σ sz (rc_lo dL q2 f) [(dL, .long)] [.ref a0, .int u1, .ref q2]) (va_Qi (fun (r' : Int32) (f' : Nat → Int64) => r' = cd ∧ (k = 0 → f' 0 = r.toInt64)) (fun f' t => rc_W Y sh rf σ' t.heap ∧ va_P Y.2.1 vwCl (rc_lo dL q2 f') t.heap) (rc_A2 sh q2 sz)) 2 12 (rc_A2 sh q2 sz) := by
  refine va_MetW (cc := cL_note) (maxL := 4) (ret := (some .int)) (hh := [(0, 9, 12, 45), (0, 9, 15, 55)]) (by decide +kernel) rfl ?_
  intro p e s m args below meth c s₁ B hml hv
  obtain ⟨rfl, hsz, ⟨hW, hK, hE⟩, hO, hK2, hN⟩ := hv
  have hx := B.exec
  have hb := B.bytes
  have hr := B.returns
  have hts0 : ∀ w ∈ (Cond.codeWith yL_note cL_note 4 (some .int) [(0, 9, 12, 45), (0, 9, 15, 55)] :: rc_big), w.before _ s = true := atoms_spec (ws := Cond.codeWith yL_note cL_note 4 (some .int) [(0, 9, 12, 45), (0, 9, 15, 55)] :: rc_big) B.pre
  have htab := vx_table (x := yL_note) B (hts0 _ List.mem_cons_self)
  have hts : ∀ w ∈ rc_big, w.before _ s = true := fun w h => hts0 w (List.mem_cons_of_mem _ h)
  have hown : s.vm.findClass RL = some m.cls := findClass_of_methodNamed B.named
  have hlocks := B.notSynchronized
  clear B
  subst hsz
  have hS : va_S (rc_A sh s.heap.size) s.heap s.heap [] := va_S.rf
  have hl := lv_entry ([.ref a0, .int u1, .ref q2]) (n := 4) (Nat.le_of_ble_eq_true rfl)
  rw [lg_entry_eq]
  generalize (lg_sl ([.ref a0, .int u1, .ref q2]) ++ List.replicate (4 - (lg_sl ([.ref a0, .int u1, .ref q2])).length) Slot.unset).toArray = ls at hl ⊢
  have hl : lv_has ls 4 [(0, .ref a0), (1, .int u1), (2, .ref q2)] := hl
  refine lv_aload_n hx hb dL_note_0 rfl (lv_at hl 2 rfl) ?_
  refine lv_iconst (v := 0) hx hb dL_note_1 (by decide) ?_
  refine lv_aload_n hx hb dL_note_2 rfl (lv_at hl 0 rfl) ?_
  refine lv_iload_n hx hb dL_note_3 rfl (lv_at hl 1 rfl) ?_
  rcases hcd with ⟨hk, hc⟩ | ⟨hk, hc⟩ | ⟨hk, hc⟩
  · subst hk
    subst hc
    refine vx_calli (vx_runV (As := [.int u1]) (rest := [.int 0, .ref q2]) ⟨hx, hb, hml, hown, hts⟩ (k_X8_note l hl9 hT a0 u1 h0 s.heap.size _ _ _ _ hm) (cwV 1 hts (rc_gV tw_5_147 tw_5_148 tw_5_149 tw_1_1 tw_5_150) rfl rfl rfl (by decide +kernel) ⟨Nat.le_of_ble_eq_true rfl, Nat.le_of_ble_eq_true rfl⟩) (rc_preV hT hW hK hE hS h0 (by decide) rfl (q := (RX8, TX8, 9)) rfl [.int u1]) rfl rfl hl.1 rfl (lv_room (Nat.le_of_ble_eq_true rfl)) dL_note_4 ⟨Nat.le_of_ble_eq_true rfl, Nat.le_of_ble_eq_true rfl⟩) hS rc_Ain (rc_Afr hS) rc_Ain (fun E ce q9 u t H locs ht _ hp _ _ _ _ _ _ _ => absurd rfl hp) (fun r1 u t H locs ht _ hp hW2 hz hq hS2 => ?_)
    obtain ⟨-, rfl⟩ := hp
    have hW := (show rc_W Y sh rf σ' H by rw [← ht]; exact hW2)
    clear hW2
    have hO := rc_Ok ho hO hq
    have hS := rc_S2 (o := q2) hS2
    clear hS2
    refine lv_i2l hx hb dL_note_7 rfl ?_
    refine rc_last hx hb hK2 hO hW ho hS dL_note_8 (fun H locs hO hW hS => ?_)
    refine lv_goto (tgt := 18) hx hb dL_note_9 (by decide) ?_
    refine lv_iconst (v := 0) hx hb dL_note_18 (by decide) ?_
    exact rc_wret (T := Nat → Int64) (wo := rc_lo dL q2) (post := fun f' => (0 : Nat) = 0 → f' 0 = r1.toInt64) hx hb hr hlocks hW hO hS (Nat.le_of_ble_eq_true rfl) (Nat.le_of_ble_eq_true rfl) rfl (fun _ => by simp [vp_updL]) dL_note_19
  · subst hk
    subst hc
    refine vx_calli (vx_runV (As := [.int u1]) (rest := [.int 0, .ref q2]) ⟨hx, hb, hml, hown, hts⟩ (k_X8_note l hl9 hT a0 u1 h0 s.heap.size _ _ _ _ hm) (cwV 1 hts (rc_gV tw_5_147 tw_5_148 tw_5_149 tw_1_1 tw_5_150) rfl rfl rfl (by decide +kernel) ⟨Nat.le_of_ble_eq_true rfl, Nat.le_of_ble_eq_true rfl⟩) (rc_preV hT hW hK hE hS h0 (by decide) rfl (q := (RX8, TX8, 9)) rfl [.int u1]) rfl rfl hl.1 rfl (lv_room (Nat.le_of_ble_eq_true rfl)) dL_note_4 ⟨Nat.le_of_ble_eq_true rfl, Nat.le_of_ble_eq_true rfl⟩) hS rc_Ain (rc_Afr hS) rc_Ain (fun E ce q9 u t H locs ht _ hp hB hz hq hS2 hce hcv hcl => ?_) (fun r1 u t H locs ht _ hp _ _ _ _ => absurd hp.1 (by decide))
    obtain ⟨hE1, hW2⟩ := hB
    have hW := (show rc_W Y sh rf σ' H by rw [← ht]; exact hW2)
    clear hW2
    have hO := rc_Ok ho hO hq
    have hS := rc_S2 (o := q2) hS2
    clear hS2
    have hE2 : E = "java/lang/IndexOutOfBoundsException" := hE1
    subst hE2
    refine vx_catch (name := "java/lang/IndexOutOfBoundsException") hown [] ⟨0, 9, 12, 45⟩ [⟨0, 9, 15, 55⟩] htab (fun z hz => nomatch hz) (by decide) (by decide) (hts _ tw_5_87) (va_Nw.use rfl (rc_E_nw hE _ nw_5_98)) hce hcv hcl ?_
    show W p l e _ s m _ below meth c H locs _ _ _ (F0 m 12 ls [.ref q9])
    refine lv_astore_n (lv' := [(3, .ref q9), (0, .ref a0), (1, .int u1), (2, .ref q2)]) hx hb dL_note_12 rfl hl (by decide) rfl (fun ls hl => ?_)
    refine lv_iconst (v := 1) hx hb dL_note_13 (by decide) ?_
    exact rc_wret (T := Nat → Int64) (wo := rc_lo dL q2) (post := fun f' => (2 : Nat) = 0 → f' 0 = r.toInt64) hx hb hr hlocks hW hO hS (Nat.le_of_ble_eq_true rfl) (Nat.le_of_ble_eq_true rfl) rfl (fun h => nomatch h) dL_note_14
  · subst hk
    subst hc
    refine vx_calli (vx_runV (As := [.int u1]) (rest := [.int 0, .ref q2]) ⟨hx, hb, hml, hown, hts⟩ (k_X8_note l hl9 hT a0 u1 h0 s.heap.size _ _ _ _ hm) (cwV 1 hts (rc_gV tw_5_147 tw_5_148 tw_5_149 tw_1_1 tw_5_150) rfl rfl rfl (by decide +kernel) ⟨Nat.le_of_ble_eq_true rfl, Nat.le_of_ble_eq_true rfl⟩) (rc_preV hT hW hK hE hS h0 (by decide) rfl (q := (RX8, TX8, 9)) rfl [.int u1]) rfl rfl hl.1 rfl (lv_room (Nat.le_of_ble_eq_true rfl)) dL_note_4 ⟨Nat.le_of_ble_eq_true rfl, Nat.le_of_ble_eq_true rfl⟩) hS rc_Ain (rc_Afr hS) rc_Ain (fun E ce q9 u t H locs ht _ hp hB hz hq hS2 hce hcv hcl => ?_) (fun r1 u t H locs ht _ hp _ _ _ _ => absurd hp.1 (by decide))
    obtain ⟨hE1, hW2⟩ := hB
    have hW := (show rc_W Y sh rf σ' H by rw [← ht]; exact hW2)
    clear hW2
    have hO := rc_Ok ho hO hq
    have hS := rc_S2 (o := q2) hS2
    clear hS2
    have hE2 : E = "java/util/NoSuchElementException" := hE1
    subst hE2
    refine vx_catch (name := "java/util/NoSuchElementException") hown [⟨0, 9, 12, 45⟩] ⟨0, 9, 15, 55⟩ [] htab (List.forall_mem_cons.mpr ⟨Or.inr ⟨by decide, "java/lang/IndexOutOfBoundsException", hts _ tw_5_87, hN.2.1⟩, fun _ h => nomatch h⟩) (by decide) (by decide) (hts _ tw_5_146) (va_Nw.use rfl (rc_E_nw hE _ nw_5_158)) hce hcv hcl ?_
    show W p l e _ s m _ below meth c H locs _ _ _ (F0 m 15 ls [.ref q9])
    refine lv_astore_n (lv' := [(3, .ref q9), (0, .ref a0), (1, .int u1), (2, .ref q2)]) hx hb dL_note_15 rfl hl (by decide) rfl (fun ls hl => ?_)
    refine lv_iconst (v := 2) hx hb dL_note_16 (by decide) ?_
    exact rc_wret (T := Nat → Int64) (wo := rc_lo dL q2) (post := fun f' => (4 : Nat) = 0 → f' 0 = r.toInt64) hx hb hr hlocks hW hO hS (Nat.le_of_ble_eq_true rfl) (Nat.le_of_ble_eq_true rfl) rfl (fun h => nomatch h) dL_note_17
set_option maxHeartbeats 4000000 in
set_option maxRecDepth 100000 in
theorem k_L_noteAgain (l : Launch) (hl9 : l.stackTraces = false) {Y : rc_Y} {sh : Nat → Nat} {rf : rc_F} (hT : rc_T Y sh rf) (a0 : Nat) (u1 : Int32) (q2 : Nat) (h0 : sh a0 = 9) (ho : sh q2 = 0) (dL : ClassId) (f : Nat → Int64) (sz : Nat) (σ σ' : rc_S) (k : Nat) (r : Int32) (cd : Int32) (hcd : (k = 0 ∧ cd = 0) ∨ (k = 2 ∧ cd = 1) ∨ (k = 4 ∧ cd = 2)) (hm : f_X8_noteAgain rf a0 u1 σ = some (k, r, σ')) : Met l yL_noteAgain (Cond.codeWith yL_noteAgain cL_noteAgain 4 (some .int) [(0, 9, 12, 45), (0, 9, 15, 55)] :: rc_big) ({ frames := 9, cells := 2, slots := 12, locals := 146 } : Room) (rc_PL Y sh rf σ sz (rc_lo dL q2 f) [(dL, .long)] [.ref a0, .int u1, .ref q2]) (va_Qi (fun (r' : Int32) (f' : Nat → Int64) => r' = cd ∧ (k = 0 → f' 0 = r.toInt64)) (fun f' t => rc_W Y sh rf σ' t.heap ∧ va_P Y.2.1 vwCl (rc_lo dL q2 f') t.heap) (rc_A2 sh q2 sz)) 2 12 (rc_A2 sh q2 sz) := by
  refine va_MetW (cc := cL_noteAgain) (maxL := 4) (ret := (some .int)) (hh := [(0, 9, 12, 45), (0, 9, 15, 55)]) (by decide +kernel) rfl ?_
  intro p e s m args below meth c s₁ B hml hv
  obtain ⟨rfl, hsz, ⟨hW, hK, hE⟩, hO, hK2, hN⟩ := hv
  have hx := B.exec
  have hb := B.bytes
  have hr := B.returns
  have hts0 : ∀ w ∈ (Cond.codeWith yL_noteAgain cL_noteAgain 4 (some .int) [(0, 9, 12, 45), (0, 9, 15, 55)] :: rc_big), w.before _ s = true := atoms_spec (ws := Cond.codeWith yL_noteAgain cL_noteAgain 4 (some .int) [(0, 9, 12, 45), (0, 9, 15, 55)] :: rc_big) B.pre
  have htab := vx_table (x := yL_noteAgain) B (hts0 _ List.mem_cons_self)
  have hts : ∀ w ∈ rc_big, w.before _ s = true := fun w h => hts0 w (List.mem_cons_of_mem _ h)
  have hown : s.vm.findClass RL = some m.cls := findClass_of_methodNamed B.named
  have hlocks := B.notSynchronized
  clear B
  subst hsz
  have hS : va_S (rc_A sh s.heap.size) s.heap s.heap [] := va_S.rf
  have hl := lv_entry ([.ref a0, .int u1, .ref q2]) (n := 4) (Nat.le_of_ble_eq_true rfl)
  rw [lg_entry_eq]
  generalize (lg_sl ([.ref a0, .int u1, .ref q2]) ++ List.replicate (4 - (lg_sl ([.ref a0, .int u1, .ref q2])).length) Slot.unset).toArray = ls at hl ⊢
  have hl : lv_has ls 4 [(0, .ref a0), (1, .int u1), (2, .ref q2)] := hl
  refine lv_aload_n hx hb dL_noteAgain_0 rfl (lv_at hl 2 rfl) ?_
  refine lv_iconst (v := 0) hx hb dL_noteAgain_1 (by decide) ?_
  refine lv_aload_n hx hb dL_noteAgain_2 rfl (lv_at hl 0 rfl) ?_
  refine lv_iload_n hx hb dL_noteAgain_3 rfl (lv_at hl 1 rfl) ?_
  rcases hcd with ⟨hk, hc⟩ | ⟨hk, hc⟩ | ⟨hk, hc⟩
  · subst hk
    subst hc
    refine vx_calli (vx_runV (As := [.int u1]) (rest := [.int 0, .ref q2]) ⟨hx, hb, hml, hown, hts⟩ (k_X8_noteAgain l hl9 hT a0 u1 h0 s.heap.size _ _ _ _ hm) (cwV 1 hts (rc_gV tw_5_175 tw_5_176 tw_5_177 tw_1_1 tw_5_178) rfl rfl rfl (by decide +kernel) ⟨Nat.le_of_ble_eq_true rfl, Nat.le_of_ble_eq_true rfl⟩) (rc_preV hT hW hK hE hS h0 (by decide) rfl (q := (RX8, TX8, 9)) rfl [.int u1]) rfl rfl hl.1 rfl (lv_room (Nat.le_of_ble_eq_true rfl)) dL_noteAgain_4 ⟨Nat.le_of_ble_eq_true rfl, Nat.le_of_ble_eq_true rfl⟩) hS rc_Ain (rc_Afr hS) rc_Ain (fun E ce q9 u t H locs ht _ hp _ _ _ _ _ _ _ => absurd rfl hp) (fun r1 u t H locs ht _ hp hW2 hz hq hS2 => ?_)
    obtain ⟨-, rfl⟩ := hp
    have hW := (show rc_W Y sh rf σ' H by rw [← ht]; exact hW2)
    clear hW2
    have hO := rc_Ok ho hO hq
    have hS := rc_S2 (o := q2) hS2
    clear hS2
    refine lv_i2l hx hb dL_noteAgain_7 rfl ?_
    refine rc_last hx hb hK2 hO hW ho hS dL_noteAgain_8 (fun H locs hO hW hS => ?_)
    refine lv_goto (tgt := 18) hx hb dL_noteAgain_9 (by decide) ?_
    refine lv_iconst (v := 0) hx hb dL_noteAgain_18 (by decide) ?_
    exact rc_wret (T := Nat → Int64) (wo := rc_lo dL q2) (post := fun f' => (0 : Nat) = 0 → f' 0 = r1.toInt64) hx hb hr hlocks hW hO hS (Nat.le_of_ble_eq_true rfl) (Nat.le_of_ble_eq_true rfl) rfl (fun _ => by simp [vp_updL]) dL_noteAgain_19
  · subst hk
    subst hc
    refine vx_calli (vx_runV (As := [.int u1]) (rest := [.int 0, .ref q2]) ⟨hx, hb, hml, hown, hts⟩ (k_X8_noteAgain l hl9 hT a0 u1 h0 s.heap.size _ _ _ _ hm) (cwV 1 hts (rc_gV tw_5_175 tw_5_176 tw_5_177 tw_1_1 tw_5_178) rfl rfl rfl (by decide +kernel) ⟨Nat.le_of_ble_eq_true rfl, Nat.le_of_ble_eq_true rfl⟩) (rc_preV hT hW hK hE hS h0 (by decide) rfl (q := (RX8, TX8, 9)) rfl [.int u1]) rfl rfl hl.1 rfl (lv_room (Nat.le_of_ble_eq_true rfl)) dL_noteAgain_4 ⟨Nat.le_of_ble_eq_true rfl, Nat.le_of_ble_eq_true rfl⟩) hS rc_Ain (rc_Afr hS) rc_Ain (fun E ce q9 u t H locs ht _ hp hB hz hq hS2 hce hcv hcl => ?_) (fun r1 u t H locs ht _ hp _ _ _ _ => absurd hp.1 (by decide))
    obtain ⟨hE1, hW2⟩ := hB
    have hW := (show rc_W Y sh rf σ' H by rw [← ht]; exact hW2)
    clear hW2
    have hO := rc_Ok ho hO hq
    have hS := rc_S2 (o := q2) hS2
    clear hS2
    have hE2 : E = "java/lang/IndexOutOfBoundsException" := hE1
    subst hE2
    refine vx_catch (name := "java/lang/IndexOutOfBoundsException") hown [] ⟨0, 9, 12, 45⟩ [⟨0, 9, 15, 55⟩] htab (fun z hz => nomatch hz) (by decide) (by decide) (hts _ tw_5_87) (va_Nw.use rfl (rc_E_nw hE _ nw_5_98)) hce hcv hcl ?_
    show W p l e _ s m _ below meth c H locs _ _ _ (F0 m 12 ls [.ref q9])
    refine lv_astore_n (lv' := [(3, .ref q9), (0, .ref a0), (1, .int u1), (2, .ref q2)]) hx hb dL_noteAgain_12 rfl hl (by decide) rfl (fun ls hl => ?_)
    refine lv_iconst (v := 1) hx hb dL_noteAgain_13 (by decide) ?_
    exact rc_wret (T := Nat → Int64) (wo := rc_lo dL q2) (post := fun f' => (2 : Nat) = 0 → f' 0 = r.toInt64) hx hb hr hlocks hW hO hS (Nat.le_of_ble_eq_true rfl) (Nat.le_of_ble_eq_true rfl) rfl (fun h => nomatch h) dL_noteAgain_14
  · subst hk
    subst hc
    refine vx_calli (vx_runV (As := [.int u1]) (rest := [.int 0, .ref q2]) ⟨hx, hb, hml, hown, hts⟩ (k_X8_noteAgain l hl9 hT a0 u1 h0 s.heap.size _ _ _ _ hm) (cwV 1 hts (rc_gV tw_5_175 tw_5_176 tw_5_177 tw_1_1 tw_5_178) rfl rfl rfl (by decide +kernel) ⟨Nat.le_of_ble_eq_true rfl, Nat.le_of_ble_eq_true rfl⟩) (rc_preV hT hW hK hE hS h0 (by decide) rfl (q := (RX8, TX8, 9)) rfl [.int u1]) rfl rfl hl.1 rfl (lv_room (Nat.le_of_ble_eq_true rfl)) dL_noteAgain_4 ⟨Nat.le_of_ble_eq_true rfl, Nat.le_of_ble_eq_true rfl⟩) hS rc_Ain (rc_Afr hS) rc_Ain (fun E ce q9 u t H locs ht _ hp hB hz hq hS2 hce hcv hcl => ?_) (fun r1 u t H locs ht _ hp _ _ _ _ => absurd hp.1 (by decide))
    obtain ⟨hE1, hW2⟩ := hB
    have hW := (show rc_W Y sh rf σ' H by rw [← ht]; exact hW2)
    clear hW2
    have hO := rc_Ok ho hO hq
    have hS := rc_S2 (o := q2) hS2
    clear hS2
    have hE2 : E = "java/util/NoSuchElementException" := hE1
    subst hE2
    refine vx_catch (name := "java/util/NoSuchElementException") hown [⟨0, 9, 12, 45⟩] ⟨0, 9, 15, 55⟩ [] htab (List.forall_mem_cons.mpr ⟨Or.inr ⟨by decide, "java/lang/IndexOutOfBoundsException", hts _ tw_5_87, hN.2.1⟩, fun _ h => nomatch h⟩) (by decide) (by decide) (hts _ tw_5_146) (va_Nw.use rfl (rc_E_nw hE _ nw_5_158)) hce hcv hcl ?_
    show W p l e _ s m _ below meth c H locs _ _ _ (F0 m 15 ls [.ref q9])
    refine lv_astore_n (lv' := [(3, .ref q9), (0, .ref a0), (1, .int u1), (2, .ref q2)]) hx hb dL_noteAgain_15 rfl hl (by decide) rfl (fun ls hl => ?_)
    refine lv_iconst (v := 2) hx hb dL_noteAgain_16 (by decide) ?_
    exact rc_wret (T := Nat → Int64) (wo := rc_lo dL q2) (post := fun f' => (4 : Nat) = 0 → f' 0 = r.toInt64) hx hb hr hlocks hW hO hS (Nat.le_of_ble_eq_true rfl) (Nat.le_of_ble_eq_true rfl) rfl (fun h => nomatch h) dL_noteAgain_17
set_option maxHeartbeats 4000000 in
set_option maxRecDepth 100000 in
theorem k_L_noteIn (l : Launch) (hl9 : l.stackTraces = false) {Y : rc_Y} {sh : Nat → Nat} {rf : rc_F} (hT : rc_T Y sh rf) (a0 : Nat) (u1 : Int32) (u2 : Int32) (q3 : Nat) (h0 : sh a0 = 9) (ho : sh q3 = 0) (dL : ClassId) (f : Nat → Int64) (sz : Nat) (σ σ' : rc_S) (k : Nat) (r : Int32) (cd : Int32) (hcd : (k = 0 ∧ cd = 0) ∨ (k = 2 ∧ cd = 1) ∨ (k = 4 ∧ cd = 2) ∨ (k = 3 ∧ cd = 3)) (hm : f_X8_noteIn rf a0 u1 u2 σ = some (k, r, σ')) : Met l yL_noteIn (Cond.codeWith yL_noteIn cL_noteIn 5 (some .int) [(0, 10, 13, 45), (0, 10, 17, 55), (0, 10, 21, 47)] :: rc_big) ({ frames := 9, cells := 3, slots := 18, locals := 147 } : Room) (rc_PL Y sh rf σ sz (rc_lo dL q3 f) [(dL, .long)] [.ref a0, .int u1, .int u2, .ref q3]) (va_Qi (fun (r' : Int32) (f' : Nat → Int64) => r' = cd ∧ (k = 0 → f' 0 = r.toInt64)) (fun f' t => rc_W Y sh rf σ' t.heap ∧ va_P Y.2.1 vwCl (rc_lo dL q3 f') t.heap) (rc_A2 sh q3 sz)) 3 18 (rc_A2 sh q3 sz) := by
  refine va_MetW (cc := cL_noteIn) (maxL := 5) (ret := (some .int)) (hh := [(0, 10, 13, 45), (0, 10, 17, 55), (0, 10, 21, 47)]) (by decide +kernel) rfl ?_
  intro p e s m args below meth c s₁ B hml hv
  obtain ⟨rfl, hsz, ⟨hW, hK, hE⟩, hO, hK2, hN⟩ := hv
  have hx := B.exec
  have hb := B.bytes
  have hr := B.returns
  have hts0 : ∀ w ∈ (Cond.codeWith yL_noteIn cL_noteIn 5 (some .int) [(0, 10, 13, 45), (0, 10, 17, 55), (0, 10, 21, 47)] :: rc_big), w.before _ s = true := atoms_spec (ws := Cond.codeWith yL_noteIn cL_noteIn 5 (some .int) [(0, 10, 13, 45), (0, 10, 17, 55), (0, 10, 21, 47)] :: rc_big) B.pre
  have htab := vx_table (x := yL_noteIn) B (hts0 _ List.mem_cons_self)
  have hts : ∀ w ∈ rc_big, w.before _ s = true := fun w h => hts0 w (List.mem_cons_of_mem _ h)
  have hown : s.vm.findClass RL = some m.cls := findClass_of_methodNamed B.named
  have hlocks := B.notSynchronized
  clear B
  subst hsz
  have hS : va_S (rc_A sh s.heap.size) s.heap s.heap [] := va_S.rf
  have hl := lv_entry ([.ref a0, .int u1, .int u2, .ref q3]) (n := 5) (Nat.le_of_ble_eq_true rfl)
  rw [lg_entry_eq]
  generalize (lg_sl ([.ref a0, .int u1, .int u2, .ref q3]) ++ List.replicate (5 - (lg_sl ([.ref a0, .int u1, .int u2, .ref q3])).length) Slot.unset).toArray = ls at hl ⊢
  have hl : lv_has ls 5 [(0, .ref a0), (1, .int u1), (2, .int u2), (3, .ref q3)] := hl
  refine lv_aload_n hx hb dL_noteIn_0 rfl (lv_at hl 3 rfl) ?_
  refine lv_iconst (v := 0) hx hb dL_noteIn_1 (by decide) ?_
  refine lv_aload_n hx hb dL_noteIn_2 rfl (lv_at hl 0 rfl) ?_
  refine lv_iload_n hx hb dL_noteIn_3 rfl (lv_at hl 1 rfl) ?_
  refine lv_iload_n hx hb dL_noteIn_4 rfl (lv_at hl 2 rfl) ?_
  rcases hcd with ⟨hk, hc⟩ | ⟨hk, hc⟩ | ⟨hk, hc⟩ | ⟨hk, hc⟩
  · subst hk
    subst hc
    refine vx_calli (vx_runV (As := [.int u1, .int u2]) (rest := [.int 0, .ref q3]) ⟨hx, hb, hml, hown, hts⟩ (k_X8_noteIn l hl9 hT a0 u1 u2 h0 s.heap.size _ _ _ _ hm) (cwV 2 hts (rc_gV tw_5_186 tw_5_187 tw_5_188 tw_1_1 tw_5_189) rfl rfl rfl (by decide +kernel) ⟨Nat.le_of_ble_eq_true rfl, Nat.le_of_ble_eq_true rfl⟩) (rc_preV hT hW hK hE hS h0 (by decide) rfl (q := (RX8, TX8, 9)) rfl [.int u1, .int u2]) rfl rfl hl.1 rfl (lv_room (Nat.le_of_ble_eq_true rfl)) dL_noteIn_5 ⟨Nat.le_of_ble_eq_true rfl, Nat.le_of_ble_eq_true rfl⟩) hS rc_Ain (rc_Afr hS) rc_Ain (fun E ce q9 u t H locs ht _ hp _ _ _ _ _ _ _ => absurd rfl hp) (fun r1 u t H locs ht _ hp hW2 hz hq hS2 => ?_)
    obtain ⟨-, rfl⟩ := hp
    have hW := (show rc_W Y sh rf σ' H by rw [← ht]; exact hW2)
    clear hW2
    have hO := rc_Ok ho hO hq
    have hS := rc_S2 (o := q3) hS2
    clear hS2
    refine lv_i2l hx hb dL_noteIn_8 rfl ?_
    refine rc_last hx hb hK2 hO hW ho hS dL_noteIn_9 (fun H locs hO hW hS => ?_)
    refine lv_goto (tgt := 25) hx hb dL_noteIn_10 (by decide) ?_
    refine lv_iconst (v := 0) hx hb dL_noteIn_25 (by decide) ?_
    exact rc_wret (T := Nat → Int64) (wo := rc_lo dL q3) (post := fun f' => (0 : Nat) = 0 → f' 0 = r1.toInt64) hx hb hr hlocks hW hO hS (Nat.le_of_ble_eq_true rfl) (Nat.le_of_ble_eq_true rfl) rfl (fun _ => by simp [vp_updL]) dL_noteIn_26
  · subst hk
    subst hc
    refine vx_calli (vx_runV (As := [.int u1, .int u2]) (rest := [.int 0, .ref q3]) ⟨hx, hb, hml, hown, hts⟩ (k_X8_noteIn l hl9 hT a0 u1 u2 h0 s.heap.size _ _ _ _ hm) (cwV 2 hts (rc_gV tw_5_186 tw_5_187 tw_5_188 tw_1_1 tw_5_189) rfl rfl rfl (by decide +kernel) ⟨Nat.le_of_ble_eq_true rfl, Nat.le_of_ble_eq_true rfl⟩) (rc_preV hT hW hK hE hS h0 (by decide) rfl (q := (RX8, TX8, 9)) rfl [.int u1, .int u2]) rfl rfl hl.1 rfl (lv_room (Nat.le_of_ble_eq_true rfl)) dL_noteIn_5 ⟨Nat.le_of_ble_eq_true rfl, Nat.le_of_ble_eq_true rfl⟩) hS rc_Ain (rc_Afr hS) rc_Ain (fun E ce q9 u t H locs ht _ hp hB hz hq hS2 hce hcv hcl => ?_) (fun r1 u t H locs ht _ hp _ _ _ _ => absurd hp.1 (by decide))
    obtain ⟨hE1, hW2⟩ := hB
    have hW := (show rc_W Y sh rf σ' H by rw [← ht]; exact hW2)
    clear hW2
    have hO := rc_Ok ho hO hq
    have hS := rc_S2 (o := q3) hS2
    clear hS2
    have hE2 : E = "java/lang/IndexOutOfBoundsException" := hE1
    subst hE2
    refine vx_catch (name := "java/lang/IndexOutOfBoundsException") hown [] ⟨0, 10, 13, 45⟩ [⟨0, 10, 17, 55⟩, ⟨0, 10, 21, 47⟩] htab (fun z hz => nomatch hz) (by decide) (by decide) (hts _ tw_5_87) (va_Nw.use rfl (rc_E_nw hE _ nw_5_98)) hce hcv hcl ?_
    show W p l e _ s m _ below meth c H locs _ _ _ (F0 m 13 ls [.ref q9])
    refine lv_astore (lv' := [(4, .ref q9), (0, .ref a0), (1, .int u1), (2, .int u2), (3, .ref q3)]) hx hb dL_noteIn_13 hl (by decide) rfl (fun ls hl => ?_)
    refine lv_iconst (v := 1) hx hb dL_noteIn_15 (by decide) ?_
    exact rc_wret (T := Nat → Int64) (wo := rc_lo dL q3) (post := fun f' => (2 : Nat) = 0 → f' 0 = r.toInt64) hx hb hr hlocks hW hO hS (Nat.le_of_ble_eq_true rfl) (Nat.le_of_ble_eq_true rfl) rfl (fun h => nomatch h) dL_noteIn_16
  · subst hk
    subst hc
    refine vx_calli (vx_runV (As := [.int u1, .int u2]) (rest := [.int 0, .ref q3]) ⟨hx, hb, hml, hown, hts⟩ (k_X8_noteIn l hl9 hT a0 u1 u2 h0 s.heap.size _ _ _ _ hm) (cwV 2 hts (rc_gV tw_5_186 tw_5_187 tw_5_188 tw_1_1 tw_5_189) rfl rfl rfl (by decide +kernel) ⟨Nat.le_of_ble_eq_true rfl, Nat.le_of_ble_eq_true rfl⟩) (rc_preV hT hW hK hE hS h0 (by decide) rfl (q := (RX8, TX8, 9)) rfl [.int u1, .int u2]) rfl rfl hl.1 rfl (lv_room (Nat.le_of_ble_eq_true rfl)) dL_noteIn_5 ⟨Nat.le_of_ble_eq_true rfl, Nat.le_of_ble_eq_true rfl⟩) hS rc_Ain (rc_Afr hS) rc_Ain (fun E ce q9 u t H locs ht _ hp hB hz hq hS2 hce hcv hcl => ?_) (fun r1 u t H locs ht _ hp _ _ _ _ => absurd hp.1 (by decide))
    obtain ⟨hE1, hW2⟩ := hB
    have hW := (show rc_W Y sh rf σ' H by rw [← ht]; exact hW2)
    clear hW2
    have hO := rc_Ok ho hO hq
    have hS := rc_S2 (o := q3) hS2
    clear hS2
    have hE2 : E = "java/util/NoSuchElementException" := hE1
    subst hE2
    refine vx_catch (name := "java/util/NoSuchElementException") hown [⟨0, 10, 13, 45⟩] ⟨0, 10, 17, 55⟩ [⟨0, 10, 21, 47⟩] htab (List.forall_mem_cons.mpr ⟨Or.inr ⟨by decide, "java/lang/IndexOutOfBoundsException", hts _ tw_5_87, hN.2.1⟩, fun _ h => nomatch h⟩) (by decide) (by decide) (hts _ tw_5_146) (va_Nw.use rfl (rc_E_nw hE _ nw_5_158)) hce hcv hcl ?_
    show W p l e _ s m _ below meth c H locs _ _ _ (F0 m 17 ls [.ref q9])
    refine lv_astore (lv' := [(4, .ref q9), (0, .ref a0), (1, .int u1), (2, .int u2), (3, .ref q3)]) hx hb dL_noteIn_17 hl (by decide) rfl (fun ls hl => ?_)
    refine lv_iconst (v := 2) hx hb dL_noteIn_19 (by decide) ?_
    exact rc_wret (T := Nat → Int64) (wo := rc_lo dL q3) (post := fun f' => (4 : Nat) = 0 → f' 0 = r.toInt64) hx hb hr hlocks hW hO hS (Nat.le_of_ble_eq_true rfl) (Nat.le_of_ble_eq_true rfl) rfl (fun h => nomatch h) dL_noteIn_20
  · subst hk
    subst hc
    refine vx_calli (vx_runV (As := [.int u1, .int u2]) (rest := [.int 0, .ref q3]) ⟨hx, hb, hml, hown, hts⟩ (k_X8_noteIn l hl9 hT a0 u1 u2 h0 s.heap.size _ _ _ _ hm) (cwV 2 hts (rc_gV tw_5_186 tw_5_187 tw_5_188 tw_1_1 tw_5_189) rfl rfl rfl (by decide +kernel) ⟨Nat.le_of_ble_eq_true rfl, Nat.le_of_ble_eq_true rfl⟩) (rc_preV hT hW hK hE hS h0 (by decide) rfl (q := (RX8, TX8, 9)) rfl [.int u1, .int u2]) rfl rfl hl.1 rfl (lv_room (Nat.le_of_ble_eq_true rfl)) dL_noteIn_5 ⟨Nat.le_of_ble_eq_true rfl, Nat.le_of_ble_eq_true rfl⟩) hS rc_Ain (rc_Afr hS) rc_Ain (fun E ce q9 u t H locs ht _ hp hB hz hq hS2 hce hcv hcl => ?_) (fun r1 u t H locs ht _ hp _ _ _ _ => absurd hp.1 (by decide))
    obtain ⟨hE1, hW2⟩ := hB
    have hW := (show rc_W Y sh rf σ' H by rw [← ht]; exact hW2)
    clear hW2
    have hO := rc_Ok ho hO hq
    have hS := rc_S2 (o := q3) hS2
    clear hS2
    have hE2 : E = "java/lang/IllegalArgumentException" := hE1
    subst hE2
    refine vx_catch (name := "java/lang/IllegalArgumentException") hown [⟨0, 10, 13, 45⟩, ⟨0, 10, 17, 55⟩] ⟨0, 10, 21, 47⟩ [] htab (List.forall_mem_cons.mpr ⟨Or.inr ⟨by decide, "java/lang/IndexOutOfBoundsException", hts _ tw_5_87, hN.1⟩, List.forall_mem_cons.mpr ⟨Or.inr ⟨by decide, "java/util/NoSuchElementException", hts _ tw_5_146, hN.2.2.2.1⟩, fun _ h => nomatch h⟩⟩) (by decide) (by decide) (hts _ tw_5_90) (va_Nw.use rfl (rc_E_nw hE _ nw_3_135)) hce hcv hcl ?_
    show W p l e _ s m _ below meth c H locs _ _ _ (F0 m 21 ls [.ref q9])
    refine lv_astore (lv' := [(4, .ref q9), (0, .ref a0), (1, .int u1), (2, .int u2), (3, .ref q3)]) hx hb dL_noteIn_21 hl (by decide) rfl (fun ls hl => ?_)
    refine lv_iconst (v := 3) hx hb dL_noteIn_23 (by decide) ?_
    exact rc_wret (T := Nat → Int64) (wo := rc_lo dL q3) (post := fun f' => (3 : Nat) = 0 → f' 0 = r.toInt64) hx hb hr hlocks hW hO hS (Nat.le_of_ble_eq_true rfl) (Nat.le_of_ble_eq_true rfl) rfl (fun h => nomatch h) dL_noteIn_24
set_option maxHeartbeats 4000000 in
set_option maxRecDepth 100000 in
theorem k_L_notices (l : Launch) (hl9 : l.stackTraces = false) {Y : rc_Y} {sh : Nat → Nat} {rf : rc_F} (hT : rc_T Y sh rf) (a0 : Nat) (u1 : Int32) (u2 : Int32) (q3 : Nat) (h0 : sh a0 = 9) (ho : sh q3 = 0) (dL : ClassId) (f : Nat → Int64) (sz : Nat) (σ σ' : rc_S) (k : Nat) (r : Int32) (cd : Int32) (hcd : (k = 0 ∧ cd = 0) ∨ (k = 2 ∧ cd = 1)) (hm : f_X8_notices rf a0 u1 u2 σ = some (k, r, σ')) : Met l yL_notices (Cond.codeWith yL_notices cL_notices 5 (some .int) [(0, 17, 20, 45)] :: rc_big) ({ frames := 8, cells := 1, slots := 6, locals := 124 } : Room) (rc_PL Y sh rf σ sz (rc_lo dL q3 f) [(dL, .long)] [.ref a0, .int u1, .int u2, .ref q3]) (va_Qi (fun (r' : Int32) (f' : Nat → Int64) => r' = cd ∧ (k = 0 → f' 0 = (if r = 0 then 0 else 1))) (fun f' t => rc_W Y sh rf σ' t.heap ∧ va_P Y.2.1 vwCl (rc_lo dL q3 f') t.heap) (rc_A2 sh q3 sz)) 1 6 (rc_A2 sh q3 sz) := by
  refine va_MetW (cc := cL_notices) (maxL := 5) (ret := (some .int)) (hh := [(0, 17, 20, 45)]) (by decide +kernel) rfl ?_
  intro p e s m args below meth c s₁ B hml hv
  obtain ⟨rfl, hsz, ⟨hW, hK, hE⟩, hO, hK2, hN⟩ := hv
  have hx := B.exec
  have hb := B.bytes
  have hr := B.returns
  have hts0 : ∀ w ∈ (Cond.codeWith yL_notices cL_notices 5 (some .int) [(0, 17, 20, 45)] :: rc_big), w.before _ s = true := atoms_spec (ws := Cond.codeWith yL_notices cL_notices 5 (some .int) [(0, 17, 20, 45)] :: rc_big) B.pre
  have htab := vx_table (x := yL_notices) B (hts0 _ List.mem_cons_self)
  have hts : ∀ w ∈ rc_big, w.before _ s = true := fun w h => hts0 w (List.mem_cons_of_mem _ h)
  have hown : s.vm.findClass RL = some m.cls := findClass_of_methodNamed B.named
  have hlocks := B.notSynchronized
  clear B
  subst hsz
  have hS : va_S (rc_A sh s.heap.size) s.heap s.heap [] := va_S.rf
  have hl := lv_entry ([.ref a0, .int u1, .int u2, .ref q3]) (n := 5) (Nat.le_of_ble_eq_true rfl)
  rw [lg_entry_eq]
  generalize (lg_sl ([.ref a0, .int u1, .int u2, .ref q3]) ++ List.replicate (5 - (lg_sl ([.ref a0, .int u1, .int u2, .ref q3])).length) Slot.unset).toArray = ls at hl ⊢
  have hl : lv_has ls 5 [(0, .ref a0), (1, .int u1), (2, .int u2), (3, .ref q3)] := hl
  refine lv_aload_n hx hb dL_notices_0 rfl (lv_at hl 3 rfl) ?_
  refine lv_iconst (v := 0) hx hb dL_notices_1 (by decide) ?_
  refine lv_aload_n hx hb dL_notices_2 rfl (lv_at hl 0 rfl) ?_
  refine lv_iload_n hx hb dL_notices_3 rfl (lv_at hl 1 rfl) ?_
  refine lv_iload_n hx hb dL_notices_4 rfl (lv_at hl 2 rfl) ?_
  rcases hcd with ⟨hk, hc⟩ | ⟨hk, hc⟩
  · subst hk
    subst hc
    refine vx_calli (vx_runV (As := [.int u1, .int u2]) (rest := [.int 0, .ref q3]) ⟨hx, hb, hml, hown, hts⟩ (k_X8_notices l hl9 hT a0 u1 u2 h0 s.heap.size _ _ _ _ hm) (cwV 2 hts (rc_gV tw_5_194 tw_5_195 tw_5_196 tw_1_1 tw_5_197) rfl rfl rfl (by decide +kernel) ⟨Nat.le_of_ble_eq_true rfl, Nat.le_of_ble_eq_true rfl⟩) (rc_preV hT hW hK hE hS h0 (by decide) rfl (q := (RX8, TX8, 9)) rfl [.int u1, .int u2]) rfl rfl hl.1 rfl (lv_room (Nat.le_of_ble_eq_true rfl)) dL_notices_5 ⟨Nat.le_of_ble_eq_true rfl, Nat.le_of_ble_eq_true rfl⟩) hS rc_Ain (rc_Afr hS) rc_Ain (fun E ce q9 u t H locs ht _ hp _ _ _ _ _ _ _ => absurd rfl hp) (fun r1 u t H locs ht _ hp hW2 hz hq hS2 => ?_)
    obtain ⟨-, rfl⟩ := hp
    have hW := (show rc_W Y sh rf σ' H by rw [← ht]; exact hW2)
    clear hW2
    have hO := rc_Ok ho hO hq
    have hS := rc_S2 (o := q3) hS2
    clear hS2
    refine lv_if_eq (tgt := 15) hx hb dL_notices_8 (by decide) (fun c9 => ?_) (fun c9 => ?_)
    · refine lv_lconst (v := 0) hx hb dL_notices_15 (by decide) ?_
      refine rc_last hx hb hK2 hO hW ho hS dL_notices_16 (fun H locs hO hW hS => ?_)
      refine lv_goto (tgt := 24) hx hb dL_notices_17 (by decide) ?_
      refine lv_iconst (v := 0) hx hb dL_notices_24 (by decide) ?_
      exact rc_wret (T := Nat → Int64) (wo := rc_lo dL q3) (post := fun f' => (0 : Nat) = 0 → f' 0 = (if r1 = 0 then 0 else 1)) hx hb hr hlocks hW hO hS (Nat.le_of_ble_eq_true rfl) (Nat.le_of_ble_eq_true rfl) rfl (fun _ => by simp [vp_updL, c9]) dL_notices_25
    · refine lv_lconst (v := 1) hx hb dL_notices_11 (by decide) ?_
      refine lv_goto (tgt := 16) hx hb dL_notices_12 (by decide) ?_
      refine rc_last hx hb hK2 hO hW ho hS dL_notices_16 (fun H locs hO hW hS => ?_)
      refine lv_goto (tgt := 24) hx hb dL_notices_17 (by decide) ?_
      refine lv_iconst (v := 0) hx hb dL_notices_24 (by decide) ?_
      exact rc_wret (T := Nat → Int64) (wo := rc_lo dL q3) (post := fun f' => (0 : Nat) = 0 → f' 0 = (if r1 = 0 then 0 else 1)) hx hb hr hlocks hW hO hS (Nat.le_of_ble_eq_true rfl) (Nat.le_of_ble_eq_true rfl) rfl (fun _ => by simp [vp_updL, c9]) dL_notices_25
  · subst hk
    subst hc
    refine vx_calli (vx_runV (As := [.int u1, .int u2]) (rest := [.int 0, .ref q3]) ⟨hx, hb, hml, hown, hts⟩ (k_X8_notices l hl9 hT a0 u1 u2 h0 s.heap.size _ _ _ _ hm) (cwV 2 hts (rc_gV tw_5_194 tw_5_195 tw_5_196 tw_1_1 tw_5_197) rfl rfl rfl (by decide +kernel) ⟨Nat.le_of_ble_eq_true rfl, Nat.le_of_ble_eq_true rfl⟩) (rc_preV hT hW hK hE hS h0 (by decide) rfl (q := (RX8, TX8, 9)) rfl [.int u1, .int u2]) rfl rfl hl.1 rfl (lv_room (Nat.le_of_ble_eq_true rfl)) dL_notices_5 ⟨Nat.le_of_ble_eq_true rfl, Nat.le_of_ble_eq_true rfl⟩) hS rc_Ain (rc_Afr hS) rc_Ain (fun E ce q9 u t H locs ht _ hp hB hz hq hS2 hce hcv hcl => ?_) (fun r1 u t H locs ht _ hp _ _ _ _ => absurd hp.1 (by decide))
    obtain ⟨hE1, hW2⟩ := hB
    have hW := (show rc_W Y sh rf σ' H by rw [← ht]; exact hW2)
    clear hW2
    have hO := rc_Ok ho hO hq
    have hS := rc_S2 (o := q3) hS2
    clear hS2
    have hE2 : E = "java/lang/IndexOutOfBoundsException" := hE1
    subst hE2
    refine vx_catch (name := "java/lang/IndexOutOfBoundsException") hown [] ⟨0, 17, 20, 45⟩ [] htab (fun z hz => nomatch hz) (by decide) (by decide) (hts _ tw_5_87) (va_Nw.use rfl (rc_E_nw hE _ nw_5_98)) hce hcv hcl ?_
    show W p l e _ s m _ below meth c H locs _ _ _ (F0 m 20 ls [.ref q9])
    refine lv_astore (lv' := [(4, .ref q9), (0, .ref a0), (1, .int u1), (2, .int u2), (3, .ref q3)]) hx hb dL_notices_20 hl (by decide) rfl (fun ls hl => ?_)
    refine lv_iconst (v := 1) hx hb dL_notices_22 (by decide) ?_
    exact rc_wret (T := Nat → Int64) (wo := rc_lo dL q3) (post := fun f' => (2 : Nat) = 0 → f' 0 = (if r = 0 then 0 else 1)) hx hb hr hlocks hW hO hS (Nat.le_of_ble_eq_true rfl) (Nat.le_of_ble_eq_true rfl) rfl (fun h => nomatch h) dL_notices_23
set_option maxHeartbeats 4000000 in
set_option maxRecDepth 100000 in
theorem k_L_noticing (l : Launch) (hl9 : l.stackTraces = false) {Y : rc_Y} {sh : Nat → Nat} {rf : rc_F} (hT : rc_T Y sh rf) (a0 : Nat) (u1 : Int32) (q2 : Nat) (h0 : sh a0 = 9) (ho : sh q2 = 0) (dL : ClassId) (f : Nat → Int64) (sz : Nat) (σ σ' : rc_S) (k : Nat) (r : Int32) (cd : Int32) (hcd : (k = 0 ∧ cd = 0) ∨ (k = 2 ∧ cd = 1)) (hm : f_X8_noticing rf a0 u1 σ = some (k, r, σ')) : Met l yL_noticing (Cond.codeWith yL_noticing cL_noticing 4 (some .int) [(0, 9, 12, 45)] :: rc_big) ({ frames := 8, cells := 1, slots := 6, locals := 123 } : Room) (rc_PL Y sh rf σ sz (rc_lo dL q2 f) [(dL, .long)] [.ref a0, .int u1, .ref q2]) (va_Qi (fun (r' : Int32) (f' : Nat → Int64) => r' = cd ∧ (k = 0 → f' 0 = r.toInt64)) (fun f' t => rc_W Y sh rf σ' t.heap ∧ va_P Y.2.1 vwCl (rc_lo dL q2 f') t.heap) (rc_A2 sh q2 sz)) 1 6 (rc_A2 sh q2 sz) := by
  refine va_MetW (cc := cL_noticing) (maxL := 4) (ret := (some .int)) (hh := [(0, 9, 12, 45)]) (by decide +kernel) rfl ?_
  intro p e s m args below meth c s₁ B hml hv
  obtain ⟨rfl, hsz, ⟨hW, hK, hE⟩, hO, hK2, hN⟩ := hv
  have hx := B.exec
  have hb := B.bytes
  have hr := B.returns
  have hts0 : ∀ w ∈ (Cond.codeWith yL_noticing cL_noticing 4 (some .int) [(0, 9, 12, 45)] :: rc_big), w.before _ s = true := atoms_spec (ws := Cond.codeWith yL_noticing cL_noticing 4 (some .int) [(0, 9, 12, 45)] :: rc_big) B.pre
  have htab := vx_table (x := yL_noticing) B (hts0 _ List.mem_cons_self)
  have hts : ∀ w ∈ rc_big, w.before _ s = true := fun w h => hts0 w (List.mem_cons_of_mem _ h)
  have hown : s.vm.findClass RL = some m.cls := findClass_of_methodNamed B.named
  have hlocks := B.notSynchronized
  clear B
  subst hsz
  have hS : va_S (rc_A sh s.heap.size) s.heap s.heap [] := va_S.rf
  have hl := lv_entry ([.ref a0, .int u1, .ref q2]) (n := 4) (Nat.le_of_ble_eq_true rfl)
  rw [lg_entry_eq]
  generalize (lg_sl ([.ref a0, .int u1, .ref q2]) ++ List.replicate (4 - (lg_sl ([.ref a0, .int u1, .ref q2])).length) Slot.unset).toArray = ls at hl ⊢
  have hl : lv_has ls 4 [(0, .ref a0), (1, .int u1), (2, .ref q2)] := hl
  refine lv_aload_n hx hb dL_noticing_0 rfl (lv_at hl 2 rfl) ?_
  refine lv_iconst (v := 0) hx hb dL_noticing_1 (by decide) ?_
  refine lv_aload_n hx hb dL_noticing_2 rfl (lv_at hl 0 rfl) ?_
  refine lv_iload_n hx hb dL_noticing_3 rfl (lv_at hl 1 rfl) ?_
  rcases hcd with ⟨hk, hc⟩ | ⟨hk, hc⟩
  · subst hk
    subst hc
    refine vx_calli (vx_runV (As := [.int u1]) (rest := [.int 0, .ref q2]) ⟨hx, hb, hml, hown, hts⟩ (k_X8_noticing l hl9 hT a0 u1 h0 s.heap.size _ _ _ _ hm) (cwV 1 hts (rc_gV tw_5_203 tw_5_204 tw_5_205 tw_1_1 tw_5_206) rfl rfl rfl (by decide +kernel) ⟨Nat.le_of_ble_eq_true rfl, Nat.le_of_ble_eq_true rfl⟩) (rc_preV hT hW hK hE hS h0 (by decide) rfl (q := (RX8, TX8, 9)) rfl [.int u1]) rfl rfl hl.1 rfl (lv_room (Nat.le_of_ble_eq_true rfl)) dL_noticing_4 ⟨Nat.le_of_ble_eq_true rfl, Nat.le_of_ble_eq_true rfl⟩) hS rc_Ain (rc_Afr hS) rc_Ain (fun E ce q9 u t H locs ht _ hp _ _ _ _ _ _ _ => absurd rfl hp) (fun r1 u t H locs ht _ hp hW2 hz hq hS2 => ?_)
    obtain ⟨-, rfl⟩ := hp
    have hW := (show rc_W Y sh rf σ' H by rw [← ht]; exact hW2)
    clear hW2
    have hO := rc_Ok ho hO hq
    have hS := rc_S2 (o := q2) hS2
    clear hS2
    refine lv_i2l hx hb dL_noticing_7 rfl ?_
    refine rc_last hx hb hK2 hO hW ho hS dL_noticing_8 (fun H locs hO hW hS => ?_)
    refine lv_goto (tgt := 15) hx hb dL_noticing_9 (by decide) ?_
    refine lv_iconst (v := 0) hx hb dL_noticing_15 (by decide) ?_
    exact rc_wret (T := Nat → Int64) (wo := rc_lo dL q2) (post := fun f' => (0 : Nat) = 0 → f' 0 = r1.toInt64) hx hb hr hlocks hW hO hS (Nat.le_of_ble_eq_true rfl) (Nat.le_of_ble_eq_true rfl) rfl (fun _ => by simp [vp_updL]) dL_noticing_16
  · subst hk
    subst hc
    refine vx_calli (vx_runV (As := [.int u1]) (rest := [.int 0, .ref q2]) ⟨hx, hb, hml, hown, hts⟩ (k_X8_noticing l hl9 hT a0 u1 h0 s.heap.size _ _ _ _ hm) (cwV 1 hts (rc_gV tw_5_203 tw_5_204 tw_5_205 tw_1_1 tw_5_206) rfl rfl rfl (by decide +kernel) ⟨Nat.le_of_ble_eq_true rfl, Nat.le_of_ble_eq_true rfl⟩) (rc_preV hT hW hK hE hS h0 (by decide) rfl (q := (RX8, TX8, 9)) rfl [.int u1]) rfl rfl hl.1 rfl (lv_room (Nat.le_of_ble_eq_true rfl)) dL_noticing_4 ⟨Nat.le_of_ble_eq_true rfl, Nat.le_of_ble_eq_true rfl⟩) hS rc_Ain (rc_Afr hS) rc_Ain (fun E ce q9 u t H locs ht _ hp hB hz hq hS2 hce hcv hcl => ?_) (fun r1 u t H locs ht _ hp _ _ _ _ => absurd hp.1 (by decide))
    obtain ⟨hE1, hW2⟩ := hB
    have hW := (show rc_W Y sh rf σ' H by rw [← ht]; exact hW2)
    clear hW2
    have hO := rc_Ok ho hO hq
    have hS := rc_S2 (o := q2) hS2
    clear hS2
    have hE2 : E = "java/lang/IndexOutOfBoundsException" := hE1
    subst hE2
    refine vx_catch (name := "java/lang/IndexOutOfBoundsException") hown [] ⟨0, 9, 12, 45⟩ [] htab (fun z hz => nomatch hz) (by decide) (by decide) (hts _ tw_5_87) (va_Nw.use rfl (rc_E_nw hE _ nw_5_98)) hce hcv hcl ?_
    show W p l e _ s m _ below meth c H locs _ _ _ (F0 m 12 ls [.ref q9])
    refine lv_astore_n (lv' := [(3, .ref q9), (0, .ref a0), (1, .int u1), (2, .ref q2)]) hx hb dL_noticing_12 rfl hl (by decide) rfl (fun ls hl => ?_)
    refine lv_iconst (v := 1) hx hb dL_noticing_13 (by decide) ?_
    exact rc_wret (T := Nat → Int64) (wo := rc_lo dL q2) (post := fun f' => (2 : Nat) = 0 → f' 0 = r.toInt64) hx hb hr hlocks hW hO hS (Nat.le_of_ble_eq_true rfl) (Nat.le_of_ble_eq_true rfl) rfl (fun h => nomatch h) dL_noticing_14
set_option maxHeartbeats 4000000 in
set_option maxRecDepth 100000 in
theorem k_L_hidden (l : Launch) (hl9 : l.stackTraces = false) {Y : rc_Y} {sh : Nat → Nat} {rf : rc_F} (hT : rc_T Y sh rf) (a0 : Nat) (u1 : Int32) (q2 : Nat) (h0 : sh a0 = 9) (ho : sh q2 = 0) (dL : ClassId) (f : Nat → Int64) (sz : Nat) (σ σ' : rc_S) (k : Nat) (r : Int32) (cd : Int32) (hcd : (k = 0 ∧ cd = 0) ∨ (k = 2 ∧ cd = 1) ∨ (k = 4 ∧ cd = 2)) (hm : f_X8_hidden rf a0 u1 σ = some (k, r, σ')) : Met l yL_hidden (Cond.codeWith yL_hidden cL_hidden 4 (some .int) [(0, 9, 12, 45), (0, 9, 15, 55)] :: rc_big) ({ frames := 10, cells := 3, slots := 18, locals := 169 } : Room) (rc_PL Y sh rf σ sz (rc_lo dL q2 f) [(dL, .long)] [.ref a0, .int u1, .ref q2]) (va_Qi (fun (r' : Int32) (f' : Nat → Int64) => r' = cd ∧ (k = 0 → f' 0 = r.toInt64)) (fun f' t => rc_W Y sh rf σ' t.heap ∧ va_P Y.2.1 vwCl (rc_lo dL q2 f') t.heap) (rc_A2 sh q2 sz)) 3 18 (rc_A2 sh q2 sz) := by
  refine va_MetW (cc := cL_hidden) (maxL := 4) (ret := (some .int)) (hh := [(0, 9, 12, 45), (0, 9, 15, 55)]) (by decide +kernel) rfl ?_
  intro p e s m args below meth c s₁ B hml hv
  obtain ⟨rfl, hsz, ⟨hW, hK, hE⟩, hO, hK2, hN⟩ := hv
  have hx := B.exec
  have hb := B.bytes
  have hr := B.returns
  have hts0 : ∀ w ∈ (Cond.codeWith yL_hidden cL_hidden 4 (some .int) [(0, 9, 12, 45), (0, 9, 15, 55)] :: rc_big), w.before _ s = true := atoms_spec (ws := Cond.codeWith yL_hidden cL_hidden 4 (some .int) [(0, 9, 12, 45), (0, 9, 15, 55)] :: rc_big) B.pre
  have htab := vx_table (x := yL_hidden) B (hts0 _ List.mem_cons_self)
  have hts : ∀ w ∈ rc_big, w.before _ s = true := fun w h => hts0 w (List.mem_cons_of_mem _ h)
  have hown : s.vm.findClass RL = some m.cls := findClass_of_methodNamed B.named
  have hlocks := B.notSynchronized
  clear B
  subst hsz
  have hS : va_S (rc_A sh s.heap.size) s.heap s.heap [] := va_S.rf
  have hl := lv_entry ([.ref a0, .int u1, .ref q2]) (n := 4) (Nat.le_of_ble_eq_true rfl)
  rw [lg_entry_eq]
  generalize (lg_sl ([.ref a0, .int u1, .ref q2]) ++ List.replicate (4 - (lg_sl ([.ref a0, .int u1, .ref q2])).length) Slot.unset).toArray = ls at hl ⊢
  have hl : lv_has ls 4 [(0, .ref a0), (1, .int u1), (2, .ref q2)] := hl
  refine lv_aload_n hx hb dL_hidden_0 rfl (lv_at hl 2 rfl) ?_
  refine lv_iconst (v := 0) hx hb dL_hidden_1 (by decide) ?_
  refine lv_aload_n hx hb dL_hidden_2 rfl (lv_at hl 0 rfl) ?_
  refine lv_iload_n hx hb dL_hidden_3 rfl (lv_at hl 1 rfl) ?_
  rcases hcd with ⟨hk, hc⟩ | ⟨hk, hc⟩ | ⟨hk, hc⟩
  · subst hk
    subst hc
    refine vx_calli (vx_runV (As := [.int u1]) (rest := [.int 0, .ref q2]) ⟨hx, hb, hml, hown, hts⟩ (k_X8_hidden l hl9 hT a0 u1 h0 s.heap.size _ _ _ _ hm) (cwV 1 hts (rc_gV tw_5_211 tw_5_212 tw_5_213 tw_1_1 tw_5_214) rfl rfl rfl (by decide +kernel) ⟨Nat.le_of_ble_eq_true rfl, Nat.le_of_ble_eq_true rfl⟩) (rc_preV hT hW hK hE hS h0 (by decide) rfl (q := (RX8, TX8, 9)) rfl [.int u1]) rfl rfl hl.1 rfl (lv_room (Nat.le_of_ble_eq_true rfl)) dL_hidden_4 ⟨Nat.le_of_ble_eq_true rfl, Nat.le_of_ble_eq_true rfl⟩) hS rc_Ain (rc_Afr hS) rc_Ain (fun E ce q9 u t H locs ht _ hp _ _ _ _ _ _ _ => absurd rfl hp) (fun r1 u t H locs ht _ hp hW2 hz hq hS2 => ?_)
    obtain ⟨-, rfl⟩ := hp
    have hW := (show rc_W Y sh rf σ' H by rw [← ht]; exact hW2)
    clear hW2
    have hO := rc_Ok ho hO hq
    have hS := rc_S2 (o := q2) hS2
    clear hS2
    refine lv_i2l hx hb dL_hidden_7 rfl ?_
    refine rc_last hx hb hK2 hO hW ho hS dL_hidden_8 (fun H locs hO hW hS => ?_)
    refine lv_goto (tgt := 18) hx hb dL_hidden_9 (by decide) ?_
    refine lv_iconst (v := 0) hx hb dL_hidden_18 (by decide) ?_
    exact rc_wret (T := Nat → Int64) (wo := rc_lo dL q2) (post := fun f' => (0 : Nat) = 0 → f' 0 = r1.toInt64) hx hb hr hlocks hW hO hS (Nat.le_of_ble_eq_true rfl) (Nat.le_of_ble_eq_true rfl) rfl (fun _ => by simp [vp_updL]) dL_hidden_19
  · subst hk
    subst hc
    refine vx_calli (vx_runV (As := [.int u1]) (rest := [.int 0, .ref q2]) ⟨hx, hb, hml, hown, hts⟩ (k_X8_hidden l hl9 hT a0 u1 h0 s.heap.size _ _ _ _ hm) (cwV 1 hts (rc_gV tw_5_211 tw_5_212 tw_5_213 tw_1_1 tw_5_214) rfl rfl rfl (by decide +kernel) ⟨Nat.le_of_ble_eq_true rfl, Nat.le_of_ble_eq_true rfl⟩) (rc_preV hT hW hK hE hS h0 (by decide) rfl (q := (RX8, TX8, 9)) rfl [.int u1]) rfl rfl hl.1 rfl (lv_room (Nat.le_of_ble_eq_true rfl)) dL_hidden_4 ⟨Nat.le_of_ble_eq_true rfl, Nat.le_of_ble_eq_true rfl⟩) hS rc_Ain (rc_Afr hS) rc_Ain (fun E ce q9 u t H locs ht _ hp hB hz hq hS2 hce hcv hcl => ?_) (fun r1 u t H locs ht _ hp _ _ _ _ => absurd hp.1 (by decide))
    obtain ⟨hE1, hW2⟩ := hB
    have hW := (show rc_W Y sh rf σ' H by rw [← ht]; exact hW2)
    clear hW2
    have hO := rc_Ok ho hO hq
    have hS := rc_S2 (o := q2) hS2
    clear hS2
    have hE2 : E = "java/lang/IndexOutOfBoundsException" := hE1
    subst hE2
    refine vx_catch (name := "java/lang/IndexOutOfBoundsException") hown [] ⟨0, 9, 12, 45⟩ [⟨0, 9, 15, 55⟩] htab (fun z hz => nomatch hz) (by decide) (by decide) (hts _ tw_5_87) (va_Nw.use rfl (rc_E_nw hE _ nw_5_98)) hce hcv hcl ?_
    show W p l e _ s m _ below meth c H locs _ _ _ (F0 m 12 ls [.ref q9])
    refine lv_astore_n (lv' := [(3, .ref q9), (0, .ref a0), (1, .int u1), (2, .ref q2)]) hx hb dL_hidden_12 rfl hl (by decide) rfl (fun ls hl => ?_)
    refine lv_iconst (v := 1) hx hb dL_hidden_13 (by decide) ?_
    exact rc_wret (T := Nat → Int64) (wo := rc_lo dL q2) (post := fun f' => (2 : Nat) = 0 → f' 0 = r.toInt64) hx hb hr hlocks hW hO hS (Nat.le_of_ble_eq_true rfl) (Nat.le_of_ble_eq_true rfl) rfl (fun h => nomatch h) dL_hidden_14
  · subst hk
    subst hc
    refine vx_calli (vx_runV (As := [.int u1]) (rest := [.int 0, .ref q2]) ⟨hx, hb, hml, hown, hts⟩ (k_X8_hidden l hl9 hT a0 u1 h0 s.heap.size _ _ _ _ hm) (cwV 1 hts (rc_gV tw_5_211 tw_5_212 tw_5_213 tw_1_1 tw_5_214) rfl rfl rfl (by decide +kernel) ⟨Nat.le_of_ble_eq_true rfl, Nat.le_of_ble_eq_true rfl⟩) (rc_preV hT hW hK hE hS h0 (by decide) rfl (q := (RX8, TX8, 9)) rfl [.int u1]) rfl rfl hl.1 rfl (lv_room (Nat.le_of_ble_eq_true rfl)) dL_hidden_4 ⟨Nat.le_of_ble_eq_true rfl, Nat.le_of_ble_eq_true rfl⟩) hS rc_Ain (rc_Afr hS) rc_Ain (fun E ce q9 u t H locs ht _ hp hB hz hq hS2 hce hcv hcl => ?_) (fun r1 u t H locs ht _ hp _ _ _ _ => absurd hp.1 (by decide))
    obtain ⟨hE1, hW2⟩ := hB
    have hW := (show rc_W Y sh rf σ' H by rw [← ht]; exact hW2)
    clear hW2
    have hO := rc_Ok ho hO hq
    have hS := rc_S2 (o := q2) hS2
    clear hS2
    have hE2 : E = "java/util/NoSuchElementException" := hE1
    subst hE2
    refine vx_catch (name := "java/util/NoSuchElementException") hown [⟨0, 9, 12, 45⟩] ⟨0, 9, 15, 55⟩ [] htab (List.forall_mem_cons.mpr ⟨Or.inr ⟨by decide, "java/lang/IndexOutOfBoundsException", hts _ tw_5_87, hN.2.1⟩, fun _ h => nomatch h⟩) (by decide) (by decide) (hts _ tw_5_146) (va_Nw.use rfl (rc_E_nw hE _ nw_5_158)) hce hcv hcl ?_
    show W p l e _ s m _ below meth c H locs _ _ _ (F0 m 15 ls [.ref q9])
    refine lv_astore_n (lv' := [(3, .ref q9), (0, .ref a0), (1, .int u1), (2, .ref q2)]) hx hb dL_hidden_15 rfl hl (by decide) rfl (fun ls hl => ?_)
    refine lv_iconst (v := 2) hx hb dL_hidden_16 (by decide) ?_
    exact rc_wret (T := Nat → Int64) (wo := rc_lo dL q2) (post := fun f' => (4 : Nat) = 0 → f' 0 = r.toInt64) hx hb hr hlocks hW hO hS (Nat.le_of_ble_eq_true rfl) (Nat.le_of_ble_eq_true rfl) rfl (fun h => nomatch h) dL_hidden_17
