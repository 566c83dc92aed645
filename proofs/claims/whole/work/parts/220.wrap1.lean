set_option maxHeartbeats 4000000 in
set_option maxRecDepth 100000 in
theorem k_L_hiddenAgain (l : Launch) (hl9 : l.stackTraces = false) {Y : rc_Y} {sh : Nat → Nat} {rf : rc_F} (hT : rc_T Y sh rf) (a0 : Nat) (u1 : Int32) (q2 : Nat) (h0 : sh a0 = 9) (ho : sh q2 = 0) (dL : ClassId) (f : Nat → Int64) (sz : Nat) (σ σ' : rc_S) (k : Nat) (r : Int32) (cd : Int32) (hcd : (k = 0 ∧ cd = 0) ∨ (k = 2 ∧ cd = 1) ∨ (k = 4 ∧ cd = 2)) (hm : f_X8_hiddenAgain rf a0 u1 σ = some (k, r, σ')) : Met l yL_hiddenAgain (Cond.codeWith yL_hiddenAgain cL_hiddenAgain 4 (some .int) [(0, 9, 12, 45), (0, 9, 15, 55)] :: rc_big) ({ frames := 10, cells := 3, slots := 18, locals := 170 } : Room) (rc_PL Y sh rf σ sz (rc_lo dL q2 f) [(dL, .long)] [.ref a0, .int u1, .ref q2]) (va_Qi (fun (r' : Int32) (f' : Nat → Int64) => r' = cd ∧ (k = 0 → f' 0 = r.toInt64)) (fun f' t => rc_W Y sh rf σ' t.heap ∧ va_P Y.2.1 vwCl (rc_lo dL q2 f') t.heap) (rc_A2 sh q2 sz)) 3 18 (rc_A2 sh q2 sz) := by
  refine va_MetW (cc := cL_hiddenAgain) (maxL := 4) (ret := (some .int)) (hh := [(0, 9, 12, 45), (0, 9, 15, 55)]) (by decide +kernel) rfl ?_
  intro p e s m args below meth c s₁ B hml hv
  obtain ⟨rfl, hsz, ⟨hW, hK, hE⟩, hO, hK2, hN⟩ := hv
  have hx := B.exec
  have hb := B.bytes
  have hr := B.returns
  have hts0 : ∀ w ∈ (Cond.codeWith yL_hiddenAgain cL_hiddenAgain 4 (some .int) [(0, 9, 12, 45), (0, 9, 15, 55)] :: rc_big), w.before _ s = true := atoms_spec (ws := Cond.codeWith yL_hiddenAgain cL_hiddenAgain 4 (some .int) [(0, 9, 12, 45), (0, 9, 15, 55)] :: rc_big) B.pre
  have htab := vx_table (x := yL_hiddenAgain) B (hts0 _ List.mem_cons_self)
  have hts : ∀ w ∈ rc_big, w.before _ s = true := fun w h => hts0 w (List.mem_cons_of_mem _ h)
  have hown : s.vm.findClass RL = some m.cls := findClass_of_methodNamed B.named
  have hlocks := B.notSynchronized
  clear B
  subst hsz
  have hS : va_S (rc_A sh s.heap.size) s.heap s.heap [] := va_S.rf
  have hl := lv_entry ([.ref a0, .int u1, .ref q2]) (n := 4) (Nat.le_of_ble_eq_true rfl)
  rw [lg_entry_eq]
  generalize (lg_sl ([.ref a0, .int u1, .ref q2]) ++ List.replicate (4 - (lg_sl ([.ref a0, .int u1, .ref q2])).length) Slot.unset).toArray = ls at hl ⊢
  have hl : lv_has ls 4 [(0, .ref a0), (1, .int u1), (2, .ref q2)] := hl
  refine lv_aload_n hx hb dL_hiddenAgain_0 rfl (lv_at hl 2 rfl) ?_
  refine lv_iconst (v := 0) hx hb dL_hiddenAgain_1 (by decide) ?_
  refine lv_aload_n hx hb dL_hiddenAgain_2 rfl (lv_at hl 0 rfl) ?_
  refine lv_iload_n hx hb dL_hiddenAgain_3 rfl (lv_at hl 1 rfl) ?_
  rcases hcd with ⟨hk, hc⟩ | ⟨hk, hc⟩ | ⟨hk, hc⟩
  · subst hk
    subst hc
    refine vx_calli (vx_runV (As := [.int u1]) (rest := [.int 0, .ref q2]) ⟨hx, hb, hml, hown, hts⟩ (k_X8_hiddenAgain l hl9 hT a0 u1 h0 s.heap.size _ _ _ _ hm) (cwV 1 hts (rc_gV tw_5_229 tw_5_230 tw_5_231 tw_1_1 tw_5_232) rfl rfl rfl (by decide +kernel) ⟨Nat.le_of_ble_eq_true rfl, Nat.le_of_ble_eq_true rfl⟩) (rc_preV hT hW hK hE hS h0 (by decide) rfl (q := (RX8, TX8, 9)) rfl [.int u1]) rfl rfl hl.1 rfl (lv_room (Nat.le_of_ble_eq_true rfl)) dL_hiddenAgain_4 ⟨Nat.le_of_ble_eq_true rfl, Nat.le_of_ble_eq_true rfl⟩) hS rc_Ain (rc_Afr hS) rc_Ain (fun E ce q9 u t H locs ht _ hp _ _ _ _ _ _ _ => absurd rfl hp) (fun r1 u t H locs ht _ hp hW2 hz hq hS2 => ?_)
    obtain ⟨-, rfl⟩ := hp
    have hW := (show rc_W Y sh rf σ' H by rw [← ht]; exact hW2)
    clear hW2
    have hO := rc_Ok ho hO hq
    have hS := rc_S2 (o := q2) hS2
    clear hS2
    refine lv_i2l hx hb dL_hiddenAgain_7 rfl ?_
    refine rc_last hx hb hK2 hO hW ho hS dL_hiddenAgain_8 (fun H locs hO hW hS => ?_)
    refine lv_goto (tgt := 18) hx hb dL_hiddenAgain_9 (by decide) ?_
    refine lv_iconst (v := 0) hx hb dL_hiddenAgain_18 (by decide) ?_
    exact rc_wret (T := Nat → Int64) (wo := rc_lo dL q2) (post := fun f' => (0 : Nat) = 0 → f' 0 = r1.toInt64) hx hb hr hlocks hW hO hS (Nat.le_of_ble_eq_true rfl) (Nat.le_of_ble_eq_true rfl) rfl (fun _ => by simp [vp_updL]) dL_hiddenAgain_19
  · subst hk
    subst hc
    refine vx_calli (vx_runV (As := [.int u1]) (rest := [.int 0, .ref q2]) ⟨hx, hb, hml, hown, hts⟩ (k_X8_hiddenAgain l hl9 hT a0 u1 h0 s.heap.size _ _ _ _ hm) (cwV 1 hts (rc_gV tw_5_229 tw_5_230 tw_5_231 tw_1_1 tw_5_232) rfl rfl rfl (by decide +kernel) ⟨Nat.le_of_ble_eq_true rfl, Nat.le_of_ble_eq_true rfl⟩) (rc_preV hT hW hK hE hS h0 (by decide) rfl (q := (RX8, TX8, 9)) rfl [.int u1]) rfl rfl hl.1 rfl (lv_room (Nat.le_of_ble_eq_true rfl)) dL_hiddenAgain_4 ⟨Nat.le_of_ble_eq_true rfl, Nat.le_of_ble_eq_true rfl⟩) hS rc_Ain (rc_Afr hS) rc_Ain (fun E ce q9 u t H locs ht _ hp hB hz hq hS2 hce hcv hcl => ?_) (fun r1 u t H locs ht _ hp _ _ _ _ => absurd hp.1 (by decide))
    obtain ⟨hE1, hW2⟩ := hB
    have hW := (show rc_W Y sh rf σ' H by rw [← ht]; exact hW2)
    clear hW2
    have hO := rc_Ok ho hO hq
    have hS := rc_S2 (o := q2) hS2
    clear hS2
    have hE2 : E = "java/lang/IndexOutOfBoundsException" := hE1
    subst hE2
    refine vx_catch (name := "java/lang/IndexOutOfBoundsException") hown [] ⟨0, 9, 12, 45⟩ [⟨0, 9, 15, 55⟩] htab (fun z hz => nomatch hz) (by decide) (by decide) (hts _ tw_5_87) (va_Nw.use rfl (rc_E_nw hE _ nw_5_98)) hce hcv hcl ?_
    show W p l e _ s m _ below meth c H locs _ _ _ (F0 m 12 ls [.ref q9])
    refine lv_astore_n (lv' := [(3, .ref q9), (0, .ref a0), (1, .int u1), (2, .ref q2)]) hx hb dL_hiddenAgain_12 rfl hl (by decide) rfl (fun ls hl => ?_)
    refine lv_iconst (v := 1) hx hb dL_hiddenAgain_13 (by decide) ?_
    exact rc_wret (T := Nat → Int64) (wo := rc_lo dL q2) (post := fun f' => (2 : Nat) = 0 → f' 0 = r.toInt64) hx hb hr hlocks hW hO hS (Nat.le_of_ble_eq_true rfl) (Nat.le_of_ble_eq_true rfl) rfl (fun h => nomatch h) dL_hiddenAgain_14
  · subst hk
    subst hc
    refine vx_calli (vx_runV (As := [.int u1]) (rest := [.int 0, .ref q2]) ⟨hx, hb, hml, hown, hts⟩ (k_X8_hiddenAgain l hl9 hT a0 u1 h0 s.heap.size _ _ _ _ hm) (cwV 1 hts (rc_gV tw_5_229 tw_5_230 tw_5_231 tw_1_1 tw_5_232) rfl rfl rfl (by decide +kernel) ⟨Nat.le_of_ble_eq_true rfl, Nat.le_of_ble_eq_true rfl⟩) (rc_preV hT hW hK hE hS h0 (by decide) rfl (q := (RX8, TX8, 9)) rfl [.int u1]) rfl rfl hl.1 rfl (lv_room (Nat.le_of_ble_eq_true rfl)) dL_hiddenAgain_4 ⟨Nat.le_of_ble_eq_true rfl, Nat.le_of_ble_eq_true rfl⟩) hS rc_Ain (rc_Afr hS) rc_Ain (fun E ce q9 u t H locs ht _ hp hB hz hq hS2 hce hcv hcl => ?_) (fun r1 u t H locs ht _ hp _ _ _ _ => absurd hp.1 (by decide))
    obtain ⟨hE1, hW2⟩ := hB
    have hW := (show rc_W Y sh rf σ' H by rw [← ht]; exact hW2)
    clear hW2
    have hO := rc_Ok ho hO hq
    have hS := rc_S2 (o := q2) hS2
    clear hS2
    have hE2 : E = "java/util/NoSuchElementException" := hE1
    subst hE2
    refine vx_catch (name := "java/util/NoSuchElementException") hown [⟨0, 9, 12, 45⟩] ⟨0, 9, 15, 55⟩ [] htab (List.forall_mem_cons.mpr ⟨Or.inr ⟨by decide, "java/lang/IndexOutOfBoundsException", hts _ tw_5_87, hN.2.1⟩, fun _ h => nomatch h⟩) (by decide) (by decide) (hts _ tw_5_146) (va_Nw.use rfl (rc_E_nw hE _ nw_5_158)) hce hcv hcl ?_
    show W p l e _ s m _ below meth c H locs _ _ _ (F0 m 15 ls [.ref q9])
    refine lv_astore_n (lv' := [(3, .ref q9), (0, .ref a0), (1, .int u1), (2, .ref q2)]) hx hb dL_hiddenAgain_15 rfl hl (by decide) rfl (fun ls hl => ?_)
    refine lv_iconst (v := 2) hx hb dL_hiddenAgain_16 (by decide) ?_
    exact rc_wret (T := Nat → Int64) (wo := rc_lo dL q2) (post := fun f' => (4 : Nat) = 0 → f' 0 = r.toInt64) hx hb hr hlocks hW hO hS (Nat.le_of_ble_eq_true rfl) (Nat.le_of_ble_eq_true rfl) rfl (fun h => nomatch h) dL_hiddenAgain_17
set_option maxHeartbeats 4000000 in
set_option maxRecDepth 100000 in
theorem k_L_wouldCatch (l : Launch) (hl9 : l.stackTraces = false) {Y : rc_Y} {sh : Nat → Nat} {rf : rc_F} (hT : rc_T Y sh rf) (a0 : Nat) (u1 : Int32) (q2 : Nat) (h0 : sh a0 = 9) (ho : sh q2 = 0) (dL : ClassId) (f : Nat → Int64) (sz : Nat) (σ σ' : rc_S) (k : Nat) (r : Int32) (cd : Int32) (hcd : (k = 0 ∧ cd = 0) ∨ (k = 3 ∧ cd = 1)) (hm : f_X8_wouldCatch rf a0 u1 σ = some (k, r, σ')) : Met l yL_wouldCatch (Cond.codeWith yL_wouldCatch cL_wouldCatch 4 (some .int) [(0, 9, 12, 47)] :: rc_big) ({ frames := 7, cells := 1, slots := 6, locals := 102 } : Room) (rc_PL Y sh rf σ sz (rc_lo dL q2 f) [(dL, .long)] [.ref a0, .int u1, .ref q2]) (va_Qi (fun (r' : Int32) (f' : Nat → Int64) => r' = cd ∧ (k = 0 → f' 0 = r.toInt64)) (fun f' t => rc_W Y sh rf σ' t.heap ∧ va_P Y.2.1 vwCl (rc_lo dL q2 f') t.heap) (rc_A2 sh q2 sz)) 1 6 (rc_A2 sh q2 sz) := by
  refine va_MetW (cc := cL_wouldCatch) (maxL := 4) (ret := (some .int)) (hh := [(0, 9, 12, 47)]) (by decide +kernel) rfl ?_
  intro p e s m args below meth c s₁ B hml hv
  obtain ⟨rfl, hsz, ⟨hW, hK, hE⟩, hO, hK2, hN⟩ := hv
  have hx := B.exec
  have hb := B.bytes
  have hr := B.returns
  have hts0 : ∀ w ∈ (Cond.codeWith yL_wouldCatch cL_wouldCatch 4 (some .int) [(0, 9, 12, 47)] :: rc_big), w.before _ s = true := atoms_spec (ws := Cond.codeWith yL_wouldCatch cL_wouldCatch 4 (some .int) [(0, 9, 12, 47)] :: rc_big) B.pre
  have htab := vx_table (x := yL_wouldCatch) B (hts0 _ List.mem_cons_self)
  have hts : ∀ w ∈ rc_big, w.before _ s = true := fun w h => hts0 w (List.mem_cons_of_mem _ h)
  have hown : s.vm.findClass RL = some m.cls := findClass_of_methodNamed B.named
  have hlocks := B.notSynchronized
  clear B
  subst hsz
  have hS : va_S (rc_A sh s.heap.size) s.heap s.heap [] := va_S.rf
  have hl := lv_entry ([.ref a0, .int u1, .ref q2]) (n := 4) (Nat.le_of_ble_eq_true rfl)
  rw [lg_entry_eq]
  generalize (lg_sl ([.ref a0, .int u1, .ref q2]) ++ List.replicate (4 - (lg_sl ([.ref a0, .int u1, .ref q2])).length) Slot.unset).toArray = ls at hl ⊢
  have hl : lv_has ls 4 [(0, .ref a0), (1, .int u1), (2, .ref q2)] := hl
  refine lv_aload_n hx hb dL_wouldCatch_0 rfl (lv_at hl 2 rfl) ?_
  refine lv_iconst (v := 0) hx hb dL_wouldCatch_1 (by decide) ?_
  refine lv_aload_n hx hb dL_wouldCatch_2 rfl (lv_at hl 0 rfl) ?_
  refine lv_iload_n hx hb dL_wouldCatch_3 rfl (lv_at hl 1 rfl) ?_
  rcases hcd with ⟨hk, hc⟩ | ⟨hk, hc⟩
  · subst hk
    subst hc
    refine vx_calli (vx_runV (As := [.int u1]) (rest := [.int 0, .ref q2]) ⟨hx, hb, hml, hown, hts⟩ (k_X8_wouldCatch l hl9 hT a0 u1 h0 s.heap.size _ _ _ _ hm) (cwV 1 hts (rc_gV tw_6_1 tw_6_2 tw_6_3 tw_1_1 tw_6_4) rfl rfl rfl (by decide +kernel) ⟨Nat.le_of_ble_eq_true rfl, Nat.le_of_ble_eq_true rfl⟩) (rc_preV hT hW hK hE hS h0 (by decide) rfl (q := (RX8, TX8, 9)) rfl [.int u1]) rfl rfl hl.1 rfl (lv_room (Nat.le_of_ble_eq_true rfl)) dL_wouldCatch_4 ⟨Nat.le_of_ble_eq_true rfl, Nat.le_of_ble_eq_true rfl⟩) hS rc_Ain (rc_Afr hS) rc_Ain (fun E ce q9 u t H locs ht _ hp _ _ _ _ _ _ _ => absurd rfl hp) (fun r1 u t H locs ht _ hp hW2 hz hq hS2 => ?_)
    obtain ⟨-, rfl⟩ := hp
    have hW := (show rc_W Y sh rf σ' H by rw [← ht]; exact hW2)
    clear hW2
    have hO := rc_Ok ho hO hq
    have hS := rc_S2 (o := q2) hS2
    clear hS2
    refine lv_i2l hx hb dL_wouldCatch_7 rfl ?_
    refine rc_last hx hb hK2 hO hW ho hS dL_wouldCatch_8 (fun H locs hO hW hS => ?_)
    refine lv_goto (tgt := 15) hx hb dL_wouldCatch_9 (by decide) ?_
    refine lv_iconst (v := 0) hx hb dL_wouldCatch_15 (by decide) ?_
    exact rc_wret (T := Nat → Int64) (wo := rc_lo dL q2) (post := fun f' => (0 : Nat) = 0 → f' 0 = r1.toInt64) hx hb hr hlocks hW hO hS (Nat.le_of_ble_eq_true rfl) (Nat.le_of_ble_eq_true rfl) rfl (fun _ => by simp [vp_updL]) dL_wouldCatch_16
  · subst hk
    subst hc
    refine vx_calli (vx_runV (As := [.int u1]) (rest := [.int 0, .ref q2]) ⟨hx, hb, hml, hown, hts⟩ (k_X8_wouldCatch l hl9 hT a0 u1 h0 s.heap.size _ _ _ _ hm) (cwV 1 hts (rc_gV tw_6_1 tw_6_2 tw_6_3 tw_1_1 tw_6_4) rfl rfl rfl (by decide +kernel) ⟨Nat.le_of_ble_eq_true rfl, Nat.le_of_ble_eq_true rfl⟩) (rc_preV hT hW hK hE hS h0 (by decide) rfl (q := (RX8, TX8, 9)) rfl [.int u1]) rfl rfl hl.1 rfl (lv_room (Nat.le_of_ble_eq_true rfl)) dL_wouldCatch_4 ⟨Nat.le_of_ble_eq_true rfl, Nat.le_of_ble_eq_true rfl⟩) hS rc_Ain (rc_Afr hS) rc_Ain (fun E ce q9 u t H locs ht _ hp hB hz hq hS2 hce hcv hcl => ?_) (fun r1 u t H locs ht _ hp _ _ _ _ => absurd hp.1 (by decide))
    obtain ⟨hE1, hW2⟩ := hB
    have hW := (show rc_W Y sh rf σ' H by rw [← ht]; exact hW2)
    clear hW2
    have hO := rc_Ok ho hO hq
    have hS := rc_S2 (o := q2) hS2
    clear hS2
    have hE2 : E = "java/lang/IllegalArgumentException" := hE1
    subst hE2
    refine vx_catch (name := "java/lang/IllegalArgumentException") hown [] ⟨0, 9, 12, 47⟩ [] htab (fun z hz => nomatch hz) (by decide) (by decide) (hts _ tw_5_90) (va_Nw.use rfl (rc_E_nw hE _ nw_3_135)) hce hcv hcl ?_
    show W p l e _ s m _ below meth c H locs _ _ _ (F0 m 12 ls [.ref q9])
    refine lv_astore_n (lv' := [(3, .ref q9), (0, .ref a0), (1, .int u1), (2, .ref q2)]) hx hb dL_wouldCatch_12 rfl hl (by decide) rfl (fun ls hl => ?_)
    refine lv_iconst (v := 1) hx hb dL_wouldCatch_13 (by decide) ?_
    exact rc_wret (T := Nat → Int64) (wo := rc_lo dL q2) (post := fun f' => (3 : Nat) = 0 → f' 0 = r.toInt64) hx hb hr hlocks hW hO hS (Nat.le_of_ble_eq_true rfl) (Nat.le_of_ble_eq_true rfl) rfl (fun h => nomatch h) dL_wouldCatch_14
set_option maxHeartbeats 4000000 in
set_option maxRecDepth 100000 in
theorem k_L_wouldLose (l : Launch) (hl9 : l.stackTraces = false) {Y : rc_Y} {sh : Nat → Nat} {rf : rc_F} (hT : rc_T Y sh rf) (a0 : Nat) (u1 : Int32) (q2 : Nat) (h0 : sh a0 = 9) (ho : sh q2 = 0) (dL : ClassId) (f : Nat → Int64) (sz : Nat) (σ σ' : rc_S) (k : Nat) (r : Int32) (cd : Int32) (hcd : (k = 0 ∧ cd = 0) ∨ (k = 3 ∧ cd = 1)) (hm : f_X8_wouldLose rf a0 u1 σ = some (k, r, σ')) : Met l yL_wouldLose (Cond.codeWith yL_wouldLose cL_wouldLose 4 (some .int) [(0, 9, 12, 47)] :: rc_big) ({ frames := 7, cells := 1, slots := 6, locals := 102 } : Room) (rc_PL Y sh rf σ sz (rc_lo dL q2 f) [(dL, .long)] [.ref a0, .int u1, .ref q2]) (va_Qi (fun (r' : Int32) (f' : Nat → Int64) => r' = cd ∧ (k = 0 → f' 0 = r.toInt64)) (fun f' t => rc_W Y sh rf σ' t.heap ∧ va_P Y.2.1 vwCl (rc_lo dL q2 f') t.heap) (rc_A2 sh q2 sz)) 1 6 (rc_A2 sh q2 sz) := by
  refine va_MetW (cc := cL_wouldLose) (maxL := 4) (ret := (some .int)) (hh := [(0, 9, 12, 47)]) (by decide +kernel) rfl ?_
  intro p e s m args below meth c s₁ B hml hv
  obtain ⟨rfl, hsz, ⟨hW, hK, hE⟩, hO, hK2, hN⟩ := hv
  have hx := B.exec
  have hb := B.bytes
  have hr := B.returns
  have hts0 : ∀ w ∈ (Cond.codeWith yL_wouldLose cL_wouldLose 4 (some .int) [(0, 9, 12, 47)] :: rc_big), w.before _ s = true := atoms_spec (ws := Cond.codeWith yL_wouldLose cL_wouldLose 4 (some .int) [(0, 9, 12, 47)] :: rc_big) B.pre
  have htab := vx_table (x := yL_wouldLose) B (hts0 _ List.mem_cons_self)
  have hts : ∀ w ∈ rc_big, w.before _ s = true := fun w h => hts0 w (List.mem_cons_of_mem _ h)
  have hown : s.vm.findClass RL = some m.cls := findClass_of_methodNamed B.named
  have hlocks := B.notSynchronized
  clear B
  subst hsz
  have hS : va_S (rc_A sh s.heap.size) s.heap s.heap [] := va_S.rf
  have hl := lv_entry ([.ref a0, .int u1, .ref q2]) (n := 4) (Nat.le_of_ble_eq_true rfl)
  rw [lg_entry_eq]
  generalize (lg_sl ([.ref a0, .int u1, .ref q2]) ++ List.replicate (4 - (lg_sl ([.ref a0, .int u1, .ref q2])).length) Slot.unset).toArray = ls at hl ⊢
  have hl : lv_has ls 4 [(0, .ref a0), (1, .int u1), (2, .ref q2)] := hl
  refine lv_aload_n hx hb dL_wouldLose_0 rfl (lv_at hl 2 rfl) ?_
  refine lv_iconst (v := 0) hx hb dL_wouldLose_1 (by decide) ?_
  refine lv_aload_n hx hb dL_wouldLose_2 rfl (lv_at hl 0 rfl) ?_
  refine lv_iload_n hx hb dL_wouldLose_3 rfl (lv_at hl 1 rfl) ?_
  rcases hcd with ⟨hk, hc⟩ | ⟨hk, hc⟩
  · subst hk
    subst hc
    refine vx_calli (vx_runV (As := [.int u1]) (rest := [.int 0, .ref q2]) ⟨hx, hb, hml, hown, hts⟩ (k_X8_wouldLose l hl9 hT a0 u1 h0 s.heap.size _ _ _ _ hm) (cwV 1 hts (rc_gV tw_6_14 tw_6_15 tw_6_16 tw_1_1 tw_6_17) rfl rfl rfl (by decide +kernel) ⟨Nat.le_of_ble_eq_true rfl, Nat.le_of_ble_eq_true rfl⟩) (rc_preV hT hW hK hE hS h0 (by decide) rfl (q := (RX8, TX8, 9)) rfl [.int u1]) rfl rfl hl.1 rfl (lv_room (Nat.le_of_ble_eq_true rfl)) dL_wouldLose_4 ⟨Nat.le_of_ble_eq_true rfl, Nat.le_of_ble_eq_true rfl⟩) hS rc_Ain (rc_Afr hS) rc_Ain (fun E ce q9 u t H locs ht _ hp _ _ _ _ _ _ _ => absurd rfl hp) (fun r1 u t H locs ht _ hp hW2 hz hq hS2 => ?_)
    obtain ⟨-, rfl⟩ := hp
    have hW := (show rc_W Y sh rf σ' H by rw [← ht]; exact hW2)
    clear hW2
    have hO := rc_Ok ho hO hq
    have hS := rc_S2 (o := q2) hS2
    clear hS2
    refine lv_i2l hx hb dL_wouldLose_7 rfl ?_
    refine rc_last hx hb hK2 hO hW ho hS dL_wouldLose_8 (fun H locs hO hW hS => ?_)
    refine lv_goto (tgt := 15) hx hb dL_wouldLose_9 (by decide) ?_
    refine lv_iconst (v := 0) hx hb dL_wouldLose_15 (by decide) ?_
    exact rc_wret (T := Nat → Int64) (wo := rc_lo dL q2) (post := fun f' => (0 : Nat) = 0 → f' 0 = r1.toInt64) hx hb hr hlocks hW hO hS (Nat.le_of_ble_eq_true rfl) (Nat.le_of_ble_eq_true rfl) rfl (fun _ => by simp [vp_updL]) dL_wouldLose_16
  · subst hk
    subst hc
    refine vx_calli (vx_runV (As := [.int u1]) (rest := [.int 0, .ref q2]) ⟨hx, hb, hml, hown, hts⟩ (k_X8_wouldLose l hl9 hT a0 u1 h0 s.heap.size _ _ _ _ hm) (cwV 1 hts (rc_gV tw_6_14 tw_6_15 tw_6_16 tw_1_1 tw_6_17) rfl rfl rfl (by decide +kernel) ⟨Nat.le_of_ble_eq_true rfl, Nat.le_of_ble_eq_true rfl⟩) (rc_preV hT hW hK hE hS h0 (by decide) rfl (q := (RX8, TX8, 9)) rfl [.int u1]) rfl rfl hl.1 rfl (lv_room (Nat.le_of_ble_eq_true rfl)) dL_wouldLose_4 ⟨Nat.le_of_ble_eq_true rfl, Nat.le_of_ble_eq_true rfl⟩) hS rc_Ain (rc_Afr hS) rc_Ain (fun E ce q9 u t H locs ht _ hp hB hz hq hS2 hce hcv hcl => ?_) (fun r1 u t H locs ht _ hp _ _ _ _ => absurd hp.1 (by decide))
    obtain ⟨hE1, hW2⟩ := hB
    have hW := (show rc_W Y sh rf σ' H by rw [← ht]; exact hW2)
    clear hW2
    have hO := rc_Ok ho hO hq
    have hS := rc_S2 (o := q2) hS2
    clear hS2
    have hE2 : E = "java/lang/IllegalArgumentException" := hE1
    subst hE2
    refine vx_catch (name := "java/lang/IllegalArgumentException") hown [] ⟨0, 9, 12, 47⟩ [] htab (fun z hz => nomatch hz) (by decide) (by decide) (hts _ tw_5_90) (va_Nw.use rfl (rc_E_nw hE _ nw_3_135)) hce hcv hcl ?_
    show W p l e _ s m _ below meth c H locs _ _ _ (F0 m 12 ls [.ref q9])
    refine lv_astore_n (lv' := [(3, .ref q9), (0, .ref a0), (1, .int u1), (2, .ref q2)]) hx hb dL_wouldLose_12 rfl hl (by decide) rfl (fun ls hl => ?_)
    refine lv_iconst (v := 1) hx hb dL_wouldLose_13 (by decide) ?_
    exact rc_wret (T := Nat → Int64) (wo := rc_lo dL q2) (post := fun f' => (3 : Nat) = 0 → f' 0 = r.toInt64) hx hb hr hlocks hW hO hS (Nat.le_of_ble_eq_true rfl) (Nat.le_of_ble_eq_true rfl) rfl (fun h => nomatch h) dL_wouldLose_14
set_option maxHeartbeats 4000000 in
set_option maxRecDepth 100000 in
theorem k_L_vintage (l : Launch) (hl9 : l.stackTraces = false) {Y : rc_Y} {sh : Nat → Nat} {rf : rc_F} (hT : rc_T Y sh rf) (a0 : Nat) (u1 : Int32) (q2 : Nat) (h0 : sh a0 = 9) (ho : sh q2 = 0) (dL : ClassId) (f : Nat → Int64) (sz : Nat) (σ σ' : rc_S) (k : Nat) (r : Int32) (cd : Int32) (hcd : (k = 0 ∧ cd = 0) ∨ (k = 4 ∧ cd = 1)) (hm : f_X8_vintage rf a0 u1 σ = some (k, r, σ')) : Met l yL_vintage (Cond.codeWith yL_vintage cL_vintage 4 (some .int) [(0, 9, 12, 55)] :: rc_big) ({ frames := 7, cells := 1, slots := 6, locals := 102 } : Room) (rc_PL Y sh rf σ sz (rc_lo dL q2 f) [(dL, .long)] [.ref a0, .int u1, .ref q2]) (va_Qi (fun (r' : Int32) (f' : Nat → Int64) => r' = cd ∧ (k = 0 → f' 0 = r.toInt64)) (fun f' t => rc_W Y sh rf σ' t.heap ∧ va_P Y.2.1 vwCl (rc_lo dL q2 f') t.heap) (rc_A2 sh q2 sz)) 1 6 (rc_A2 sh q2 sz) := by
  refine va_MetW (cc := cL_vintage) (maxL := 4) (ret := (some .int)) (hh := [(0, 9, 12, 55)]) (by decide +kernel) rfl ?_
  intro p e s m args below meth c s₁ B hml hv
  obtain ⟨rfl, hsz, ⟨hW, hK, hE⟩, hO, hK2, hN⟩ := hv
  have hx := B.exec
  have hb := B.bytes
  have hr := B.returns
  have hts0 : ∀ w ∈ (Cond.codeWith yL_vintage cL_vintage 4 (some .int) [(0, 9, 12, 55)] :: rc_big), w.before _ s = true := atoms_spec (ws := Cond.codeWith yL_vintage cL_vintage 4 (some .int) [(0, 9, 12, 55)] :: rc_big) B.pre
  have htab := vx_table (x := yL_vintage) B (hts0 _ List.mem_cons_self)
  have hts : ∀ w ∈ rc_big, w.before _ s = true := fun w h => hts0 w (List.mem_cons_of_mem _ h)
  have hown : s.vm.findClass RL = some m.cls := findClass_of_methodNamed B.named
  have hlocks := B.notSynchronized
  clear B
  subst hsz
  have hS : va_S (rc_A sh s.heap.size) s.heap s.heap [] := va_S.rf
  have hl := lv_entry ([.ref a0, .int u1, .ref q2]) (n := 4) (Nat.le_of_ble_eq_true rfl)
  rw [lg_entry_eq]
  generalize (lg_sl ([.ref a0, .int u1, .ref q2]) ++ List.replicate (4 - (lg_sl ([.ref a0, .int u1, .ref q2])).length) Slot.unset).toArray = ls at hl ⊢
  have hl : lv_has ls 4 [(0, .ref a0), (1, .int u1), (2, .ref q2)] := hl
  refine lv_aload_n hx hb dL_vintage_0 rfl (lv_at hl 2 rfl) ?_
  refine lv_iconst (v := 0) hx hb dL_vintage_1 (by decide) ?_
  refine lv_aload_n hx hb dL_vintage_2 rfl (lv_at hl 0 rfl) ?_
  refine lv_iload_n hx hb dL_vintage_3 rfl (lv_at hl 1 rfl) ?_
  rcases hcd with ⟨hk, hc⟩ | ⟨hk, hc⟩
  · subst hk
    subst hc
    refine vx_calli (vx_runV (As := [.int u1]) (rest := [.int 0, .ref q2]) ⟨hx, hb, hml, hown, hts⟩ (k_X8_vintage l hl9 hT a0 u1 h0 s.heap.size _ _ _ _ hm) (cwV 1 hts (rc_gV tw_6_22 tw_6_23 tw_6_24 tw_1_1 tw_6_25) rfl rfl rfl (by decide +kernel) ⟨Nat.le_of_ble_eq_true rfl, Nat.le_of_ble_eq_true rfl⟩) (rc_preV hT hW hK hE hS h0 (by decide) rfl (q := (RX8, TX8, 9)) rfl [.int u1]) rfl rfl hl.1 rfl (lv_room (Nat.le_of_ble_eq_true rfl)) dL_vintage_4 ⟨Nat.le_of_ble_eq_true rfl, Nat.le_of_ble_eq_true rfl⟩) hS rc_Ain (rc_Afr hS) rc_Ain (fun E ce q9 u t H locs ht _ hp _ _ _ _ _ _ _ => absurd rfl hp) (fun r1 u t H locs ht _ hp hW2 hz hq hS2 => ?_)
    obtain ⟨-, rfl⟩ := hp
    have hW := (show rc_W Y sh rf σ' H by rw [← ht]; exact hW2)
    clear hW2
    have hO := rc_Ok ho hO hq
    have hS := rc_S2 (o := q2) hS2
    clear hS2
    refine lv_i2l hx hb dL_vintage_7 rfl ?_
    refine rc_last hx hb hK2 hO hW ho hS dL_vintage_8 (fun H locs hO hW hS => ?_)
    refine lv_goto (tgt := 15) hx hb dL_vintage_9 (by decide) ?_
    refine lv_iconst (v := 0) hx hb dL_vintage_15 (by decide) ?_
    exact rc_wret (T := Nat → Int64) (wo := rc_lo dL q2) (post := fun f' => (0 : Nat) = 0 → f' 0 = r1.toInt64) hx hb hr hlocks hW hO hS (Nat.le_of_ble_eq_true rfl) (Nat.le_of_ble_eq_true rfl) rfl (fun _ => by simp [vp_updL]) dL_vintage_16
  · subst hk
    subst hc
    refine vx_calli (vx_runV (As := [.int u1]) (rest := [.int 0, .ref q2]) ⟨hx, hb, hml, hown, hts⟩ (k_X8_vintage l hl9 hT a0 u1 h0 s.heap.size _ _ _ _ hm) (cwV 1 hts (rc_gV tw_6_22 tw_6_23 tw_6_24 tw_1_1 tw_6_25) rfl rfl rfl (by decide +kernel) ⟨Nat.le_of_ble_eq_true rfl, Nat.le_of_ble_eq_true rfl⟩) (rc_preV hT hW hK hE hS h0 (by decide) rfl (q := (RX8, TX8, 9)) rfl [.int u1]) rfl rfl hl.1 rfl (lv_room (Nat.le_of_ble_eq_true rfl)) dL_vintage_4 ⟨Nat.le_of_ble_eq_true rfl, Nat.le_of_ble_eq_true rfl⟩) hS rc_Ain (rc_Afr hS) rc_Ain (fun E ce q9 u t H locs ht _ hp hB hz hq hS2 hce hcv hcl => ?_) (fun r1 u t H locs ht _ hp _ _ _ _ => absurd hp.1 (by decide))
    obtain ⟨hE1, hW2⟩ := hB
    have hW := (show rc_W Y sh rf σ' H by rw [← ht]; exact hW2)
    clear hW2
    have hO := rc_Ok ho hO hq
    have hS := rc_S2 (o := q2) hS2
    clear hS2
    have hE2 : E = "java/util/NoSuchElementException" := hE1
    subst hE2
    refine vx_catch (name := "java/util/NoSuchElementException") hown [] ⟨0, 9, 12, 55⟩ [] htab (fun z hz => nomatch hz) (by decide) (by decide) (hts _ tw_5_146) (va_Nw.use rfl (rc_E_nw hE _ nw_5_158)) hce hcv hcl ?_
    show W p l e _ s m _ below meth c H locs _ _ _ (F0 m 12 ls [.ref q9])
    refine lv_astore_n (lv' := [(3, .ref q9), (0, .ref a0), (1, .int u1), (2, .ref q2)]) hx hb dL_vintage_12 rfl hl (by decide) rfl (fun ls hl => ?_)
    refine lv_iconst (v := 1) hx hb dL_vintage_13 (by decide) ?_
    exact rc_wret (T := Nat → Int64) (wo := rc_lo dL q2) (post := fun f' => (4 : Nat) = 0 → f' 0 = r.toInt64) hx hb hr hlocks hW hO hS (Nat.le_of_ble_eq_true rfl) (Nat.le_of_ble_eq_true rfl) rfl (fun h => nomatch h) dL_vintage_14
set_option maxHeartbeats 4000000 in
set_option maxRecDepth 100000 in
theorem k_L_stormOf (l : Launch) (hl9 : l.stackTraces = false) {Y : rc_Y} {sh : Nat → Nat} {rf : rc_F} (hT : rc_T Y sh rf) (a0 : Nat) (u1 : Int32) (u2 : Int32) (q3 : Nat) (h0 : sh a0 = 9) (ho : sh q3 = 0) (dL : ClassId) (f : Nat → Int64) (sz : Nat) (σ σ' : rc_S) (k : Nat) (r : Int32) (cd : Int32) (hcd : (k = 0 ∧ cd = 0) ∨ (k = 4 ∧ cd = 1) ∨ (k = 3 ∧ cd = 2)) (hm : f_X8_stormOf rf a0 u1 u2 σ = some (k, r, σ')) : Met l yL_stormOf (Cond.codeWith yL_stormOf cL_stormOf 5 (some .int) [(0, 10, 13, 55), (0, 10, 17, 47)] :: rc_big) ({ frames := 7, cells := 1, slots := 6, locals := 104 } : Room) (rc_PL Y sh rf σ sz (rc_lo dL q3 f) [(dL, .long)] [.ref a0, .int u1, .int u2, .ref q3]) (va_Qi (fun (r' : Int32) (f' : Nat → Int64) => r' = cd ∧ (k = 0 → f' 0 = r.toInt64)) (fun f' t => rc_W Y sh rf σ' t.heap ∧ va_P Y.2.1 vwCl (rc_lo dL q3 f') t.heap) (rc_A2 sh q3 sz)) 1 6 (rc_A2 sh q3 sz) := by
  refine va_MetW (cc := cL_stormOf) (maxL := 5) (ret := (some .int)) (hh := [(0, 10, 13, 55), (0, 10, 17, 47)]) (by decide +kernel) rfl ?_
  intro p e s m args below meth c s₁ B hml hv
  obtain ⟨rfl, hsz, ⟨hW, hK, hE⟩, hO, hK2, hN⟩ := hv
  have hx := B.exec
  have hb := B.bytes
  have hr := B.returns
  have hts0 : ∀ w ∈ (Cond.codeWith yL_stormOf cL_stormOf 5 (some .int) [(0, 10, 13, 55), (0, 10, 17, 47)] :: rc_big), w.before _ s = true := atoms_spec (ws := Cond.codeWith yL_stormOf cL_stormOf 5 (some .int) [(0, 10, 13, 55), (0, 10, 17, 47)] :: rc_big) B.pre
  have htab := vx_table (x := yL_stormOf) B (hts0 _ List.mem_cons_self)
  have hts : ∀ w ∈ rc_big, w.before _ s = true := fun w h => hts0 w (List.mem_cons_of_mem _ h)
  have hown : s.vm.findClass RL = some m.cls := findClass_of_methodNamed B.named
  have hlocks := B.notSynchronized
  clear B
  subst hsz
  have hS : va_S (rc_A sh s.heap.size) s.heap s.heap [] := va_S.rf
  have hl := lv_entry ([.ref a0, .int u1, .int u2, .ref q3]) (n := 5) (Nat.le_of_ble_eq_true rfl)
  rw [lg_entry_eq]
  generalize (lg_sl ([.ref a0, .int u1, .int u2, .ref q3]) ++ List.replicate (5 - (lg_sl ([.ref a0, .int u1, .int u2, .ref q3])).length) Slot.unset).toArray = ls at hl ⊢
  have hl : lv_has ls 5 [(0, .ref a0), (1, .int u1), (2, .int u2), (3, .ref q3)] := hl
  refine lv_aload_n hx hb dL_stormOf_0 rfl (lv_at hl 3 rfl) ?_
  refine lv_iconst (v := 0) hx hb dL_stormOf_1 (by decide) ?_
  refine lv_aload_n hx hb dL_stormOf_2 rfl (lv_at hl 0 rfl) ?_
  refine lv_iload_n hx hb dL_stormOf_3 rfl (lv_at hl 1 rfl) ?_
  refine lv_iload_n hx hb dL_stormOf_4 rfl (lv_at hl 2 rfl) ?_
  rcases hcd with ⟨hk, hc⟩ | ⟨hk, hc⟩ | ⟨hk, hc⟩
  · subst hk
    subst hc
    refine vx_calli (vx_runV (As := [.int u1, .int u2]) (rest := [.int 0, .ref q3]) ⟨hx, hb, hml, hown, hts⟩ (k_X8_stormOf l hl9 hT a0 u1 u2 h0 s.heap.size _ _ _ _ hm) (cwV 2 hts (rc_gV tw_6_33 tw_6_34 tw_6_35 tw_1_1 tw_6_36) rfl rfl rfl (by decide +kernel) ⟨Nat.le_of_ble_eq_true rfl, Nat.le_of_ble_eq_true rfl⟩) (rc_preV hT hW hK hE hS h0 (by decide) rfl (q := (RX8, TX8, 9)) rfl [.int u1, .int u2]) rfl rfl hl.1 rfl (lv_room (Nat.le_of_ble_eq_true rfl)) dL_stormOf_5 ⟨Nat.le_of_ble_eq_true rfl, Nat.le_of_ble_eq_true rfl⟩) hS rc_Ain (rc_Afr hS) rc_Ain (fun E ce q9 u t H locs ht _ hp _ _ _ _ _ _ _ => absurd rfl hp) (fun r1 u t H locs ht _ hp hW2 hz hq hS2 => ?_)
    obtain ⟨-, rfl⟩ := hp
    have hW := (show rc_W Y sh rf σ' H by rw [← ht]; exact hW2)
    clear hW2
    have hO := rc_Ok ho hO hq
    have hS := rc_S2 (o := q3) hS2
    clear hS2
    refine lv_i2l hx hb dL_stormOf_8 rfl ?_
    refine rc_last hx hb hK2 hO hW ho hS dL_stormOf_9 (fun H locs hO hW hS => ?_)
    refine lv_goto (tgt := 21) hx hb dL_stormOf_10 (by decide) ?_
    refine lv_iconst (v := 0) hx hb dL_stormOf_21 (by decide) ?_
    exact rc_wret (T := Nat → Int64) (wo := rc_lo dL q3) (post := fun f' => (0 : Nat) = 0 → f' 0 = r1.toInt64) hx hb hr hlocks hW hO hS (Nat.le_of_ble_eq_true rfl) (Nat.le_of_ble_eq_true rfl) rfl (fun _ => by simp [vp_updL]) dL_stormOf_22
  · subst hk
    subst hc
    refine vx_calli (vx_runV (As := [.int u1, .int u2]) (rest := [.int 0, .ref q3]) ⟨hx, hb, hml, hown, hts⟩ (k_X8_stormOf l hl9 hT a0 u1 u2 h0 s.heap.size _ _ _ _ hm) (cwV 2 hts (rc_gV tw_6_33 tw_6_34 tw_6_35 tw_1_1 tw_6_36) rfl rfl rfl (by decide +kernel) ⟨Nat.le_of_ble_eq_true rfl, Nat.le_of_ble_eq_true rfl⟩) (rc_preV hT hW hK hE hS h0 (by decide) rfl (q := (RX8, TX8, 9)) rfl [.int u1, .int u2]) rfl rfl hl.1 rfl (lv_room (Nat.le_of_ble_eq_true rfl)) dL_stormOf_5 ⟨Nat.le_of_ble_eq_true rfl, Nat.le_of_ble_eq_true rfl⟩) hS rc_Ain (rc_Afr hS) rc_Ain (fun E ce q9 u t H locs ht _ hp hB hz hq hS2 hce hcv hcl => ?_) (fun r1 u t H locs ht _ hp _ _ _ _ => absurd hp.1 (by decide))
    obtain ⟨hE1, hW2⟩ := hB
    have hW := (show rc_W Y sh rf σ' H by rw [← ht]; exact hW2)
    clear hW2
    have hO := rc_Ok ho hO hq
    have hS := rc_S2 (o := q3) hS2
    clear hS2
    have hE2 : E = "java/util/NoSuchElementException" := hE1
    subst hE2
    refine vx_catch (name := "java/util/NoSuchElementException") hown [] ⟨0, 10, 13, 55⟩ [⟨0, 10, 17, 47⟩] htab (fun z hz => nomatch hz) (by decide) (by decide) (hts _ tw_5_146) (va_Nw.use rfl (rc_E_nw hE _ nw_5_158)) hce hcv hcl ?_
    show W p l e _ s m _ below meth c H locs _ _ _ (F0 m 13 ls [.ref q9])
    refine lv_astore (lv' := [(4, .ref q9), (0, .ref a0), (1, .int u1), (2, .int u2), (3, .ref q3)]) hx hb dL_stormOf_13 hl (by decide) rfl (fun ls hl => ?_)
    refine lv_iconst (v := 1) hx hb dL_stormOf_15 (by decide) ?_
    exact rc_wret (T := Nat → Int64) (wo := rc_lo dL q3) (post := fun f' => (4 : Nat) = 0 → f' 0 = r.toInt64) hx hb hr hlocks hW hO hS (Nat.le_of_ble_eq_true rfl) (Nat.le_of_ble_eq_true rfl) rfl (fun h => nomatch h) dL_stormOf_16
  · subst hk
    subst hc
    refine vx_calli (vx_runV (As := [.int u1, .int u2]) (rest := [.int 0, .ref q3]) ⟨hx, hb, hml, hown, hts⟩ (k_X8_stormOf l hl9 hT a0 u1 u2 h0 s.heap.size _ _ _ _ hm) (cwV 2 hts (rc_gV tw_6_33 tw_6_34 tw_6_35 tw_1_1 tw_6_36) rfl rfl rfl (by decide +kernel) ⟨Nat.le_of_ble_eq_true rfl, Nat.le_of_ble_eq_true rfl⟩) (rc_preV hT hW hK hE hS h0 (by decide) rfl (q := (RX8, TX8, 9)) rfl [.int u1, .int u2]) rfl rfl hl.1 rfl (lv_room (Nat.le_of_ble_eq_true rfl)) dL_stormOf_5 ⟨Nat.le_of_ble_eq_true rfl, Nat.le_of_ble_eq_true rfl⟩) hS rc_Ain (rc_Afr hS) rc_Ain (fun E ce q9 u t H locs ht _ hp hB hz hq hS2 hce hcv hcl => ?_) (fun r1 u t H locs ht _ hp _ _ _ _ => absurd hp.1 (by decide))
    obtain ⟨hE1, hW2⟩ := hB
    have hW := (show rc_W Y sh rf σ' H by rw [← ht]; exact hW2)
    clear hW2
    have hO := rc_Ok ho hO hq
    have hS := rc_S2 (o := q3) hS2
    clear hS2
    have hE2 : E = "java/lang/IllegalArgumentException" := hE1
    subst hE2
    refine vx_catch (name := "java/lang/IllegalArgumentException") hown [⟨0, 10, 13, 55⟩] ⟨0, 10, 17, 47⟩ [] htab (List.forall_mem_cons.mpr ⟨Or.inr ⟨by decide, "java/util/NoSuchElementException", hts _ tw_5_146, hN.2.2.2.1⟩, fun _ h => nomatch h⟩) (by decide) (by decide) (hts _ tw_5_90) (va_Nw.use rfl (rc_E_nw hE _ nw_3_135)) hce hcv hcl ?_
    show W p l e _ s m _ below meth c H locs _ _ _ (F0 m 17 ls [.ref q9])
    refine lv_astore (lv' := [(4, .ref q9), (0, .ref a0), (1, .int u1), (2, .int u2), (3, .ref q3)]) hx hb dL_stormOf_17 hl (by decide) rfl (fun ls hl => ?_)
    refine lv_iconst (v := 2) hx hb dL_stormOf_19 (by decide) ?_
    exact rc_wret (T := Nat → Int64) (wo := rc_lo dL q3) (post := fun f' => (3 : Nat) = 0 → f' 0 = r.toInt64) hx hb hr hlocks hW hO hS (Nat.le_of_ble_eq_true rfl) (Nat.le_of_ble_eq_true rfl) rfl (fun h => nomatch h) dL_stormOf_20
set_option maxHeartbeats 4000000 in
set_option maxRecDepth 100000 in
theorem k_L_canPour (l : Launch) (hl9 : l.stackTraces = false) {Y : rc_Y} {sh : Nat → Nat} {rf : rc_F} (hT : rc_T Y sh rf) (a0 : Nat) (u1 : Int32) (u2 : Int32) (q3 : Nat) (h0 : sh a0 = 9) (ho : sh q3 = 0) (dL : ClassId) (f : Nat → Int64) (sz : Nat) (σ σ' : rc_S) (k : Nat) (r : Int32) (cd : Int32) (hcd : (k = 0 ∧ cd = 0) ∨ (k = 2 ∧ cd = 1)) (hm : f_X8_canPour rf a0 u1 u2 σ = some (k, r, σ')) : Met l yL_canPour (Cond.codeWith yL_canPour cL_canPour 5 (some .int) [(0, 17, 20, 45)] :: rc_big) ({ frames := 8, cells := 2, slots := 12, locals := 126 } : Room) (rc_PL Y sh rf σ sz (rc_lo dL q3 f) [(dL, .long)] [.ref a0, .int u1, .int u2, .ref q3]) (va_Qi (fun (r' : Int32) (f' : Nat → Int64) => r' = cd ∧ (k = 0 → f' 0 = (if r = 0 then 0 else 1))) (fun f' t => rc_W Y sh rf σ' t.heap ∧ va_P Y.2.1 vwCl (rc_lo dL q3 f') t.heap) (rc_A2 sh q3 sz)) 2 12 (rc_A2 sh q3 sz) := by
  refine va_MetW (cc := cL_canPour) (maxL := 5) (ret := (some .int)) (hh := [(0, 17, 20, 45)]) (by decide +kernel) rfl ?_
  intro p e s m args below meth c s₁ B hml hv
  obtain ⟨rfl, hsz, ⟨hW, hK, hE⟩, hO, hK2, hN⟩ := hv
  have hx := B.exec
  have hb := B.bytes
  have hr := B.returns
  have hts0 : ∀ w ∈ (Cond.codeWith yL_canPour cL_canPour 5 (some .int) [(0, 17, 20, 45)] :: rc_big), w.before _ s = true := atoms_spec (ws := Cond.codeWith yL_canPour cL_canPour 5 (some .int) [(0, 17, 20, 45)] :: rc_big) B.pre
  have htab := vx_table (x := yL_canPour) B (hts0 _ List.mem_cons_self)
  have hts : ∀ w ∈ rc_big, w.before _ s = true := fun w h => hts0 w (List.mem_cons_of_mem _ h)
  have hown : s.vm.findClass RL = some m.cls := findClass_of_methodNamed B.named
  have hlocks := B.notSynchronized
  clear B
  subst hsz
  have hS : va_S (rc_A sh s.heap.size) s.heap s.heap [] := va_S.rf
  have hl := lv_entry ([.ref a0, .int u1, .int u2, .ref q3]) (n := 5) (Nat.le_of_ble_eq_true rfl)
  rw [lg_entry_eq]
  generalize (lg_sl ([.ref a0, .int u1, .int u2, .ref q3]) ++ List.replicate (5 - (lg_sl ([.ref a0, .int u1, .int u2, .ref q3])).length) Slot.unset).toArray = ls at hl ⊢
  have hl : lv_has ls 5 [(0, .ref a0), (1, .int u1), (2, .int u2), (3, .ref q3)] := hl
  refine lv_aload_n hx hb dL_canPour_0 rfl (lv_at hl 3 rfl) ?_
  refine lv_iconst (v := 0) hx hb dL_canPour_1 (by decide) ?_
  refine lv_aload_n hx hb dL_canPour_2 rfl (lv_at hl 0 rfl) ?_
  refine lv_iload_n hx hb dL_canPour_3 rfl (lv_at hl 1 rfl) ?_
  refine lv_iload_n hx hb dL_canPour_4 rfl (lv_at hl 2 rfl) ?_
  rcases hcd with ⟨hk, hc⟩ | ⟨hk, hc⟩
  · subst hk
    subst hc
    refine vx_calli (vx_runV (As := [.int u1, .int u2]) (rest := [.int 0, .ref q3]) ⟨hx, hb, hml, hown, hts⟩ (k_X8_canPour l hl9 hT a0 u1 u2 h0 s.heap.size _ _ _ _ hm) (cwV 2 hts (rc_gV tw_6_45 tw_6_46 tw_6_47 tw_1_1 tw_6_48) rfl rfl rfl (by decide +kernel) ⟨Nat.le_of_ble_eq_true rfl, Nat.le_of_ble_eq_true rfl⟩) (rc_preV hT hW hK hE hS h0 (by decide) rfl (q := (RX8, TX8, 9)) rfl [.int u1, .int u2]) rfl rfl hl.1 rfl (lv_room (Nat.le_of_ble_eq_true rfl)) dL_canPour_5 ⟨Nat.le_of_ble_eq_true rfl, Nat.le_of_ble_eq_true rfl⟩) hS rc_Ain (rc_Afr hS) rc_Ain (fun E ce q9 u t H locs ht _ hp _ _ _ _ _ _ _ => absurd rfl hp) (fun r1 u t H locs ht _ hp hW2 hz hq hS2 => ?_)
    obtain ⟨-, rfl⟩ := hp
    have hW := (show rc_W Y sh rf σ' H by rw [← ht]; exact hW2)
    clear hW2
    have hO := rc_Ok ho hO hq
    have hS := rc_S2 (o := q3) hS2
    clear hS2
    refine lv_if_eq (tgt := 15) hx hb dL_canPour_8 (by decide) (fun c9 => ?_) (fun c9 => ?_)
    · refine lv_lconst (v := 0) hx hb dL_canPour_15 (by decide) ?_
      refine rc_last hx hb hK2 hO hW ho hS dL_canPour_16 (fun H locs hO hW hS => ?_)
      refine lv_goto (tgt := 24) hx hb dL_canPour_17 (by decide) ?_
      refine lv_iconst (v := 0) hx hb dL_canPour_24 (by decide) ?_
      exact rc_wret (T := Nat → Int64) (wo := rc_lo dL q3) (post := fun f' => (0 : Nat) = 0 → f' 0 = (if r1 = 0 then 0 else 1)) hx hb hr hlocks hW hO hS (Nat.le_of_ble_eq_true rfl) (Nat.le_of_ble_eq_true rfl) rfl (fun _ => by simp [vp_updL, c9]) dL_canPour_25
    · refine lv_lconst (v := 1) hx hb dL_canPour_11 (by decide) ?_
      refine lv_goto (tgt := 16) hx hb dL_canPour_12 (by decide) ?_
      refine rc_last hx hb hK2 hO hW ho hS dL_canPour_16 (fun H locs hO hW hS => ?_)
      refine lv_goto (tgt := 24) hx hb dL_canPour_17 (by decide) ?_
      refine lv_iconst (v := 0) hx hb dL_canPour_24 (by decide) ?_
      exact rc_wret (T := Nat → Int64) (wo := rc_lo dL q3) (post := fun f' => (0 : Nat) = 0 → f' 0 = (if r1 = 0 then 0 else 1)) hx hb hr hlocks hW hO hS (Nat.le_of_ble_eq_true rfl) (Nat.le_of_ble_eq_true rfl) rfl (fun _ => by simp [vp_updL, c9]) dL_canPour_25
  · subst hk
    subst hc
    refine vx_calli (vx_runV (As := [.int u1, .int u2]) (rest := [.int 0, .ref q3]) ⟨hx, hb, hml, hown, hts⟩ (k_X8_canPour l hl9 hT a0 u1 u2 h0 s.heap.size _ _ _ _ hm) (cwV 2 hts (rc_gV tw_6_45 tw_6_46 tw_6_47 tw_1_1 tw_6_48) rfl rfl rfl (by decide +kernel) ⟨Nat.le_of_ble_eq_true rfl, Nat.le_of_ble_eq_true rfl⟩) (rc_preV hT hW hK hE hS h0 (by decide) rfl (q := (RX8, TX8, 9)) rfl [.int u1, .int u2]) rfl rfl hl.1 rfl (lv_room (Nat.le_of_ble_eq_true rfl)) dL_canPour_5 ⟨Nat.le_of_ble_eq_true rfl, Nat.le_of_ble_eq_true rfl⟩) hS rc_Ain (rc_Afr hS) rc_Ain (fun E ce q9 u t H locs ht _ hp hB hz hq hS2 hce hcv hcl => ?_) (fun r1 u t H locs ht _ hp _ _ _ _ => absurd hp.1 (by decide))
    obtain ⟨hE1, hW2⟩ := hB
    have hW := (show rc_W Y sh rf σ' H by rw [← ht]; exact hW2)
    clear hW2
    have hO := rc_Ok ho hO hq
    have hS := rc_S2 (o := q3) hS2
    clear hS2
    have hE2 : E = "java/lang/IndexOutOfBoundsException" := hE1
    subst hE2
    refine vx_catch (name := "java/lang/IndexOutOfBoundsException") hown [] ⟨0, 17, 20, 45⟩ [] htab (fun z hz => nomatch hz) (by decide) (by decide) (hts _ tw_5_87) (va_Nw.use rfl (rc_E_nw hE _ nw_5_98)) hce hcv hcl ?_
    show W p l e _ s m _ below meth c H locs _ _ _ (F0 m 20 ls [.ref q9])
    refine lv_astore (lv' := [(4, .ref q9), (0, .ref a0), (1, .int u1), (2, .int u2), (3, .ref q3)]) hx hb dL_canPour_20 hl (by decide) rfl (fun ls hl => ?_)
    refine lv_iconst (v := 1) hx hb dL_canPour_22 (by decide) ?_
    exact rc_wret (T := Nat → Int64) (wo := rc_lo dL q3) (post := fun f' => (2 : Nat) = 0 → f' 0 = (if r = 0 then 0 else 1)) hx hb hr hlocks hW hO hS (Nat.le_of_ble_eq_true rfl) (Nat.le_of_ble_eq_true rfl) rfl (fun h => nomatch h) dL_canPour_23
set_option maxHeartbeats 4000000 in
set_option maxRecDepth 100000 in
theorem k_L_ranked (l : Launch) (hl9 : l.stackTraces = false) {Y : rc_Y} {sh : Nat → Nat} {rf : rc_F} (hT : rc_T Y sh rf) (a0 : Nat) (u1 : Int32) (u2 : Int32) (q3 : Nat) (h0 : sh a0 = 9) (ho : sh q3 = 0) (dL : ClassId) (f : Nat → Int64) (sz : Nat) (σ σ' : rc_S) (k : Nat) (r : Int32) (cd : Int32) (hcd : (k = 0 ∧ cd = 0) ∨ (k = 3 ∧ cd = 1) ∨ (k = 4 ∧ cd = 2)) (hm : f_X8_ranked rf a0 u1 u2 σ = some (k, r, σ')) : Met l yL_ranked (Cond.codeWith yL_ranked cL_ranked 5 (some .int) [(0, 10, 13, 47), (0, 10, 17, 55)] :: rc_big) ({ frames := 8, cells := 1, slots := 6, locals := 177 } : Room) (rc_PL Y sh rf σ sz (rc_lo dL q3 f) [(dL, .long)] [.ref a0, .int u1, .int u2, .ref q3]) (va_Qi (fun (r' : Int32) (f' : Nat → Int64) => r' = cd ∧ (k = 0 → f' 0 = r.toInt64)) (fun f' t => rc_W Y sh rf σ' t.heap ∧ va_P Y.2.1 vwCl (rc_lo dL q3 f') t.heap) (rc_A2 sh q3 sz)) 1 6 (rc_A2 sh q3 sz) := by
  refine va_MetW (cc := cL_ranked) (maxL := 5) (ret := (some .int)) (hh := [(0, 10, 13, 47), (0, 10, 17, 55)]) (by decide +kernel) rfl ?_
  intro p e s m args below meth c s₁ B hml hv
  obtain ⟨rfl, hsz, ⟨hW, hK, hE⟩, hO, hK2, hN⟩ := hv
  have hx := B.exec
  have hb := B.bytes
  have hr := B.returns
  have hts0 : ∀ w ∈ (Cond.codeWith yL_ranked cL_ranked 5 (some .int) [(0, 10, 13, 47), (0, 10, 17, 55)] :: rc_big), w.before _ s = true := atoms_spec (ws := Cond.codeWith yL_ranked cL_ranked 5 (some .int) [(0, 10, 13, 47), (0, 10, 17, 55)] :: rc_big) B.pre
  have htab := vx_table (x := yL_ranked) B (hts0 _ List.mem_cons_self)
  have hts : ∀ w ∈ rc_big, w.before _ s = true := fun w h => hts0 w (List.mem_cons_of_mem _ h)
  have hown : s.vm.findClass RL = some m.cls := findClass_of_methodNamed B.named
  have hlocks := B.notSynchronized
  clear B
  subst hsz
  have hS : va_S (rc_A sh s.heap.size) s.heap s.heap [] := va_S.rf
  have hl := lv_entry ([.ref a0, .int u1, .int u2, .ref q3]) (n := 5) (Nat.le_of_ble_eq_true rfl)
  rw [lg_entry_eq]
  generalize (lg_sl ([.ref a0, .int u1, .int u2, .ref q3]) ++ List.replicate (5 - (lg_sl ([.ref a0, .int u1, .int u2, .ref q3])).length) Slot.unset).toArray = ls at hl ⊢
  have hl : lv_has ls 5 [(0, .ref a0), (1, .int u1), (2, .int u2), (3, .ref q3)] := hl
  refine lv_aload_n hx hb dL_ranked_0 rfl (lv_at hl 3 rfl) ?_
  refine lv_iconst (v := 0) hx hb dL_ranked_1 (by decide) ?_
  refine lv_aload_n hx hb dL_ranked_2 rfl (lv_at hl 0 rfl) ?_
  refine lv_iload_n hx hb dL_ranked_3 rfl (lv_at hl 1 rfl) ?_
  refine lv_iload_n hx hb dL_ranked_4 rfl (lv_at hl 2 rfl) ?_
  rcases hcd with ⟨hk, hc⟩ | ⟨hk, hc⟩ | ⟨hk, hc⟩
  · subst hk
    subst hc
    refine vx_calli (vx_runV (As := [.int u1, .int u2]) (rest := [.int 0, .ref q3]) ⟨hx, hb, hml, hown, hts⟩ (k_X8_ranked l hl9 hT a0 u1 u2 h0 s.heap.size _ _ _ _ hm) (cwV 2 hts (rc_gV tw_6_54 tw_6_55 tw_6_56 tw_1_1 tw_6_57) rfl rfl rfl (by decide +kernel) ⟨Nat.le_of_ble_eq_true rfl, Nat.le_of_ble_eq_true rfl⟩) (rc_preV hT hW hK hE hS h0 (by decide) rfl (q := (RX8, TX8, 9)) rfl [.int u1, .int u2]) rfl rfl hl.1 rfl (lv_room (Nat.le_of_ble_eq_true rfl)) dL_ranked_5 ⟨Nat.le_of_ble_eq_true rfl, Nat.le_of_ble_eq_true rfl⟩) hS rc_Ain (rc_Afr hS) rc_Ain (fun E ce q9 u t H locs ht _ hp _ _ _ _ _ _ _ => absurd rfl hp) (fun r1 u t H locs ht _ hp hW2 hz hq hS2 => ?_)
    obtain ⟨-, rfl⟩ := hp
    have hW := (show rc_W Y sh rf σ' H by rw [← ht]; exact hW2)
    clear hW2
    have hO := rc_Ok ho hO hq
    have hS := rc_S2 (o := q3) hS2
    clear hS2
    refine lv_i2l hx hb dL_ranked_8 rfl ?_
    refine rc_last hx hb hK2 hO hW ho hS dL_ranked_9 (fun H locs hO hW hS => ?_)
    refine lv_goto (tgt := 21) hx hb dL_ranked_10 (by decide) ?_
    refine lv_iconst (v := 0) hx hb dL_ranked_21 (by decide) ?_
    exact rc_wret (T := Nat → Int64) (wo := rc_lo dL q3) (post := fun f' => (0 : Nat) = 0 → f' 0 = r1.toInt64) hx hb hr hlocks hW hO hS (Nat.le_of_ble_eq_true rfl) (Nat.le_of_ble_eq_true rfl) rfl (fun _ => by simp [vp_updL]) dL_ranked_22
  · subst hk
    subst hc
    refine vx_calli (vx_runV (As := [.int u1, .int u2]) (rest := [.int 0, .ref q3]) ⟨hx, hb, hml, hown, hts⟩ (k_X8_ranked l hl9 hT a0 u1 u2 h0 s.heap.size _ _ _ _ hm) (cwV 2 hts (rc_gV tw_6_54 tw_6_55 tw_6_56 tw_1_1 tw_6_57) rfl rfl rfl (by decide +kernel) ⟨Nat.le_of_ble_eq_true rfl, Nat.le_of_ble_eq_true rfl⟩) (rc_preV hT hW hK hE hS h0 (by decide) rfl (q := (RX8, TX8, 9)) rfl [.int u1, .int u2]) rfl rfl hl.1 rfl (lv_room (Nat.le_of_ble_eq_true rfl)) dL_ranked_5 ⟨Nat.le_of_ble_eq_true rfl, Nat.le_of_ble_eq_true rfl⟩) hS rc_Ain (rc_Afr hS) rc_Ain (fun E ce q9 u t H locs ht _ hp hB hz hq hS2 hce hcv hcl => ?_) (fun r1 u t H locs ht _ hp _ _ _ _ => absurd hp.1 (by decide))
    obtain ⟨hE1, hW2⟩ := hB
    have hW := (show rc_W Y sh rf σ' H by rw [← ht]; exact hW2)
    clear hW2
    have hO := rc_Ok ho hO hq
    have hS := rc_S2 (o := q3) hS2
    clear hS2
    have hE2 : E = "java/lang/IllegalArgumentException" := hE1
    subst hE2
    refine vx_catch (name := "java/lang/IllegalArgumentException") hown [] ⟨0, 10, 13, 47⟩ [⟨0, 10, 17, 55⟩] htab (fun z hz => nomatch hz) (by decide) (by decide) (hts _ tw_5_90) (va_Nw.use rfl (rc_E_nw hE _ nw_3_135)) hce hcv hcl ?_
    show W p l e _ s m _ below meth c H locs _ _ _ (F0 m 13 ls [.ref q9])
    refine lv_astore (lv' := [(4, .ref q9), (0, .ref a0), (1, .int u1), (2, .int u2), (3, .ref q3)]) hx hb dL_ranked_13 hl (by decide) rfl (fun ls hl => ?_)
    refine lv_iconst (v := 1) hx hb dL_ranked_15 (by decide) ?_
    exact rc_wret (T := Nat → Int64) (wo := rc_lo dL q3) (post := fun f' => (3 : Nat) = 0 → f' 0 = r.toInt64) hx hb hr hlocks hW hO hS (Nat.le_of_ble_eq_true rfl) (Nat.le_of_ble_eq_true rfl) rfl (fun h => nomatch h) dL_ranked_16
  · subst hk
    subst hc
    refine vx_calli (vx_runV (As := [.int u1, .int u2]) (rest := [.int 0, .ref q3]) ⟨hx, hb, hml, hown, hts⟩ (k_X8_ranked l hl9 hT a0 u1 u2 h0 s.heap.size _ _ _ _ hm) (cwV 2 hts (rc_gV tw_6_54 tw_6_55 tw_6_56 tw_1_1 tw_6_57) rfl rfl rfl (by decide +kernel) ⟨Nat.le_of_ble_eq_true rfl, Nat.le_of_ble_eq_true rfl⟩) (rc_preV hT hW hK hE hS h0 (by decide) rfl (q := (RX8, TX8, 9)) rfl [.int u1, .int u2]) rfl rfl hl.1 rfl (lv_room (Nat.le_of_ble_eq_true rfl)) dL_ranked_5 ⟨Nat.le_of_ble_eq_true rfl, Nat.le_of_ble_eq_true rfl⟩) hS rc_Ain (rc_Afr hS) rc_Ain (fun E ce q9 u t H locs ht _ hp hB hz hq hS2 hce hcv hcl => ?_) (fun r1 u t H locs ht _ hp _ _ _ _ => absurd hp.1 (by decide))
    obtain ⟨hE1, hW2⟩ := hB
    have hW := (show rc_W Y sh rf σ' H by rw [← ht]; exact hW2)
    clear hW2
    have hO := rc_Ok ho hO hq
    have hS := rc_S2 (o := q3) hS2
    clear hS2
    have hE2 : E = "java/util/NoSuchElementException" := hE1
    subst hE2
    refine vx_catch (name := "java/util/NoSuchElementException") hown [⟨0, 10, 13, 47⟩] ⟨0, 10, 17, 55⟩ [] htab (List.forall_mem_cons.mpr ⟨Or.inr ⟨by decide, "java/lang/IllegalArgumentException", hts _ tw_5_90, hN.2.2.2.2⟩, fun _ h => nomatch h⟩) (by decide) (by decide) (hts _ tw_5_146) (va_Nw.use rfl (rc_E_nw hE _ nw_5_158)) hce hcv hcl ?_
    show W p l e _ s m _ below meth c H locs _ _ _ (F0 m 17 ls [.ref q9])
    refine lv_astore (lv' := [(4, .ref q9), (0, .ref a0), (1, .int u1), (2, .int u2), (3, .ref q3)]) hx hb dL_ranked_17 hl (by decide) rfl (fun ls hl => ?_)
    refine lv_iconst (v := 2) hx hb dL_ranked_19 (by decide) ?_
    exact rc_wret (T := Nat → Int64) (wo := rc_lo dL q3) (post := fun f' => (4 : Nat) = 0 → f' 0 = r.toInt64) hx hb hr hlocks hW hO hS (Nat.le_of_ble_eq_true rfl) (Nat.le_of_ble_eq_true rfl) rfl (fun h => nomatch h) dL_ranked_20
set_option maxHeartbeats 4000000 in
set_option maxRecDepth 100000 in
theorem k_L_append (l : Launch) (hl9 : l.stackTraces = false) {Y : rc_Y} {sh : Nat → Nat} {rf : rc_F} (hT : rc_T Y sh rf) (a0 : Nat) (u1 : Int32) (q2 : Nat) (h0 : sh a0 = 9) (ho : sh q2 = 0) (dL : ClassId) (f : Nat → Int64) (sz : Nat) (σ σ' : rc_S) (k : Nat) (r : Int32) (cd : Int32) (hcd : (k = 0 ∧ cd = 0) ∨ (k = 5 ∧ cd = 1)) (hm : f_X8_append rf a0 u1 σ = some (k, r, σ')) : Met l yL_append (Cond.codeWith yL_append cL_append 4 (some .int) [(0, 9, 12, 98)] :: rc_big) ({ frames := 7, cells := 1, slots := 6, locals := 102 } : Room) (rc_PL Y sh rf σ sz (rc_lo dL q2 f) [(dL, .long)] [.ref a0, .int u1, .ref q2]) (va_Qi (fun (r' : Int32) (f' : Nat → Int64) => r' = cd ∧ (k = 0 → f' 0 = r.toInt64)) (fun f' t => rc_W Y sh rf σ' t.heap ∧ va_P Y.2.1 vwCl (rc_lo dL q2 f') t.heap) (rc_A2 sh q2 sz)) 1 6 (rc_A2 sh q2 sz) := by
  refine va_MetW (cc := cL_append) (maxL := 4) (ret := (some .int)) (hh := [(0, 9, 12, 98)]) (by decide +kernel) rfl ?_
  intro p e s m args below meth c s₁ B hml hv
  obtain ⟨rfl, hsz, ⟨hW, hK, hE⟩, hO, hK2, hN⟩ := hv
  have hx := B.exec
  have hb := B.bytes
  have hr := B.returns
  have hts0 : ∀ w ∈ (Cond.codeWith yL_append cL_append 4 (some .int) [(0, 9, 12, 98)] :: rc_big), w.before _ s = true := atoms_spec (ws := Cond.codeWith yL_append cL_append 4 (some .int) [(0, 9, 12, 98)] :: rc_big) B.pre
  have htab := vx_table (x := yL_append) B (hts0 _ List.mem_cons_self)
  have hts : ∀ w ∈ rc_big, w.before _ s = true := fun w h => hts0 w (List.mem_cons_of_mem _ h)
  have hown : s.vm.findClass RL = some m.cls := findClass_of_methodNamed B.named
  have hlocks := B.notSynchronized
  clear B
  subst hsz
  have hS : va_S (rc_A sh s.heap.size) s.heap s.heap [] := va_S.rf
  have hl := lv_entry ([.ref a0, .int u1, .ref q2]) (n := 4) (Nat.le_of_ble_eq_true rfl)
  rw [lg_entry_eq]
  generalize (lg_sl ([.ref a0, .int u1, .ref q2]) ++ List.replicate (4 - (lg_sl ([.ref a0, .int u1, .ref q2])).length) Slot.unset).toArray = ls at hl ⊢
  have hl : lv_has ls 4 [(0, .ref a0), (1, .int u1), (2, .ref q2)] := hl
  refine lv_aload_n hx hb dL_append_0 rfl (lv_at hl 2 rfl) ?_
  refine lv_iconst (v := 0) hx hb dL_append_1 (by decide) ?_
  refine lv_aload_n hx hb dL_append_2 rfl (lv_at hl 0 rfl) ?_
  refine lv_iload_n hx hb dL_append_3 rfl (lv_at hl 1 rfl) ?_
  rcases hcd with ⟨hk, hc⟩ | ⟨hk, hc⟩
  · subst hk
    subst hc
    refine vx_calli (vx_runV (As := [.int u1]) (rest := [.int 0, .ref q2]) ⟨hx, hb, hml, hown, hts⟩ (k_X8_append l hl9 hT a0 u1 h0 s.heap.size _ _ _ _ hm) (cwV 1 hts (rc_gV tw_6_72 tw_6_73 tw_6_74 tw_1_1 tw_6_75) rfl rfl rfl (by decide +kernel) ⟨Nat.le_of_ble_eq_true rfl, Nat.le_of_ble_eq_true rfl⟩) (rc_preV hT hW hK hE hS h0 (by decide) rfl (q := (RX8, TX8, 9)) rfl [.int u1]) rfl rfl hl.1 rfl (lv_room (Nat.le_of_ble_eq_true rfl)) dL_append_4 ⟨Nat.le_of_ble_eq_true rfl, Nat.le_of_ble_eq_true rfl⟩) hS rc_Ain (rc_Afr hS) rc_Ain (fun E ce q9 u t H locs ht _ hp _ _ _ _ _ _ _ => absurd rfl hp) (fun r1 u t H locs ht _ hp hW2 hz hq hS2 => ?_)
    obtain ⟨-, rfl⟩ := hp
    have hW := (show rc_W Y sh rf σ' H by rw [← ht]; exact hW2)
    clear hW2
    have hO := rc_Ok ho hO hq
    have hS := rc_S2 (o := q2) hS2
    clear hS2
    refine lv_i2l hx hb dL_append_7 rfl ?_
    refine rc_last hx hb hK2 hO hW ho hS dL_append_8 (fun H locs hO hW hS => ?_)
    refine lv_goto (tgt := 15) hx hb dL_append_9 (by decide) ?_
    refine lv_iconst (v := 0) hx hb dL_append_15 (by decide) ?_
    exact rc_wret (T := Nat → Int64) (wo := rc_lo dL q2) (post := fun f' => (0 : Nat) = 0 → f' 0 = r1.toInt64) hx hb hr hlocks hW hO hS (Nat.le_of_ble_eq_true rfl) (Nat.le_of_ble_eq_true rfl) rfl (fun _ => by simp [vp_updL]) dL_append_16
  · subst hk
    subst hc
    refine vx_calli (vx_runV (As := [.int u1]) (rest := [.int 0, .ref q2]) ⟨hx, hb, hml, hown, hts⟩ (k_X8_append l hl9 hT a0 u1 h0 s.heap.size _ _ _ _ hm) (cwV 1 hts (rc_gV tw_6_72 tw_6_73 tw_6_74 tw_1_1 tw_6_75) rfl rfl rfl (by decide +kernel) ⟨Nat.le_of_ble_eq_true rfl, Nat.le_of_ble_eq_true rfl⟩) (rc_preV hT hW hK hE hS h0 (by decide) rfl (q := (RX8, TX8, 9)) rfl [.int u1]) rfl rfl hl.1 rfl (lv_room (Nat.le_of_ble_eq_true rfl)) dL_append_4 ⟨Nat.le_of_ble_eq_true rfl, Nat.le_of_ble_eq_true rfl⟩) hS rc_Ain (rc_Afr hS) rc_Ain (fun E ce q9 u t H locs ht _ hp hB hz hq hS2 hce hcv hcl => ?_) (fun r1 u t H locs ht _ hp _ _ _ _ => absurd hp.1 (by decide))
    obtain ⟨hE1, hW2⟩ := hB
    have hW := (show rc_W Y sh rf σ' H by rw [← ht]; exact hW2)
    clear hW2
    have hO := rc_Ok ho hO hq
    have hS := rc_S2 (o := q2) hS2
    clear hS2
    have hE2 : E = "java/lang/IllegalStateException" := hE1
    subst hE2
    refine vx_catch (name := "java/lang/IllegalStateException") hown [] ⟨0, 9, 12, 98⟩ [] htab (fun z hz => nomatch hz) (by decide) (by decide) (hts _ tw_6_71) (va_Nw.use rfl (rc_E_nw hE _ nw_6_78)) hce hcv hcl ?_
    show W p l e _ s m _ below meth c H locs _ _ _ (F0 m 12 ls [.ref q9])
    refine lv_astore_n (lv' := [(3, .ref q9), (0, .ref a0), (1, .int u1), (2, .ref q2)]) hx hb dL_append_12 rfl hl (by decide) rfl (fun ls hl => ?_)
    refine lv_iconst (v := 1) hx hb dL_append_13 (by decide) ?_
    exact rc_wret (T := Nat → Int64) (wo := rc_lo dL q2) (post := fun f' => (5 : Nat) = 0 → f' 0 = r.toInt64) hx hb hr hlocks hW hO hS (Nat.le_of_ble_eq_true rfl) (Nat.le_of_ble_eq_true rfl) rfl (fun h => nomatch h) dL_append_14
set_option maxHeartbeats 4000000 in
set_option maxRecDepth 100000 in
theorem k_L_commands (l : Launch) (hl9 : l.stackTraces = false) {Y : rc_Y} {sh : Nat → Nat} {rf : rc_F} (hT : rc_T Y sh rf) (a0 : Nat) (q1 : Nat) (h0 : sh a0 = 9) (ho : sh q1 = 0) (dL : ClassId) (f : Nat → Int64) (sz : Nat) (σ σ' : rc_S) (k : Nat) (r : Int32) (cd : Int32) (hcd : (k = 0 ∧ cd = 0) ∨ (k = 3 ∧ cd = 1) ∨ (k = 1 ∧ cd = 2)) (hm : f_X8_commands rf a0 σ = some (k, r, σ')) : Met l yL_commands (Cond.codeWith yL_commands cL_commands 3 (some .int) [(0, 8, 11, 47), (0, 8, 14, 13)] :: rc_big) ({ frames := 8, cells := 1, slots := 6, locals := 177 } : Room) (rc_PL Y sh rf σ sz (rc_lo dL q1 f) [(dL, .long)] [.ref a0, .ref q1]) (va_Qi (fun (r' : Int32) (f' : Nat → Int64) => r' = cd ∧ (k = 0 → f' 0 = r.toInt64)) (fun f' t => rc_W Y sh rf σ' t.heap ∧ va_P Y.2.1 vwCl (rc_lo dL q1 f') t.heap) (rc_A2 sh q1 sz)) 1 6 (rc_A2 sh q1 sz) := by
  refine va_MetW (cc := cL_commands) (maxL := 3) (ret := (some .int)) (hh := [(0, 8, 11, 47), (0, 8, 14, 13)]) (by decide +kernel) rfl ?_
  intro p e s m args below meth c s₁ B hml hv
  obtain ⟨rfl, hsz, ⟨hW, hK, hE⟩, hO, hK2, hN⟩ := hv
  have hx := B.exec
  have hb := B.bytes
  have hr := B.returns
  have hts0 : ∀ w ∈ (Cond.codeWith yL_commands cL_commands 3 (some .int) [(0, 8, 11, 47), (0, 8, 14, 13)] :: rc_big), w.before _ s = true := atoms_spec (ws := Cond.codeWith yL_commands cL_commands 3 (some .int) [(0, 8, 11, 47), (0, 8, 14, 13)] :: rc_big) B.pre
  have htab := vx_table (x := yL_commands) B (hts0 _ List.mem_cons_self)
  have hts : ∀ w ∈ rc_big, w.before _ s = true := fun w h => hts0 w (List.mem_cons_of_mem _ h)
  have hown : s.vm.findClass RL = some m.cls := findClass_of_methodNamed B.named
  have hlocks := B.notSynchronized
  clear B
  subst hsz
  have hS : va_S (rc_A sh s.heap.size) s.heap s.heap [] := va_S.rf
  have hl := lv_entry ([.ref a0, .ref q1]) (n := 3) (Nat.le_of_ble_eq_true rfl)
  rw [lg_entry_eq]
  generalize (lg_sl ([.ref a0, .ref q1]) ++ List.replicate (3 - (lg_sl ([.ref a0, .ref q1])).length) Slot.unset).toArray = ls at hl ⊢
  have hl : lv_has ls 3 [(0, .ref a0), (1, .ref q1)] := hl
  refine lv_aload_n hx hb dL_commands_0 rfl (lv_at hl 1 rfl) ?_
  refine lv_iconst (v := 0) hx hb dL_commands_1 (by decide) ?_
  refine lv_aload_n hx hb dL_commands_2 rfl (lv_at hl 0 rfl) ?_
  rcases hcd with ⟨hk, hc⟩ | ⟨hk, hc⟩ | ⟨hk, hc⟩
  · subst hk
    subst hc
    refine vx_calli (vx_runV (As := []) (rest := [.int 0, .ref q1]) ⟨hx, hb, hml, hown, hts⟩ (k_X8_commands l hl9 hT a0 h0 s.heap.size _ _ _ _ hm) (cwV 0 hts (rc_gV tw_6_98 tw_6_99 tw_6_100 tw_1_1 tw_6_101) rfl rfl rfl (by decide +kernel) ⟨Nat.le_of_ble_eq_true rfl, Nat.le_of_ble_eq_true rfl⟩) (rc_preV hT hW hK hE hS h0 (by decide) rfl (q := (RX8, TX8, 9)) rfl []) rfl rfl hl.1 rfl (lv_room (Nat.le_of_ble_eq_true rfl)) dL_commands_3 ⟨Nat.le_of_ble_eq_true rfl, Nat.le_of_ble_eq_true rfl⟩) hS rc_Ain (rc_Afr hS) rc_Ain (fun E ce q9 u t H locs ht _ hp _ _ _ _ _ _ _ => absurd rfl hp) (fun r1 u t H locs ht _ hp hW2 hz hq hS2 => ?_)
    obtain ⟨-, rfl⟩ := hp
    have hW := (show rc_W Y sh rf σ' H by rw [← ht]; exact hW2)
    clear hW2
    have hO := rc_Ok ho hO hq
    have hS := rc_S2 (o := q1) hS2
    clear hS2
    refine lv_i2l hx hb dL_commands_6 rfl ?_
    refine rc_last hx hb hK2 hO hW ho hS dL_commands_7 (fun H locs hO hW hS => ?_)
    refine lv_goto (tgt := 17) hx hb dL_commands_8 (by decide) ?_
    refine lv_iconst (v := 0) hx hb dL_commands_17 (by decide) ?_
    exact rc_wret (T := Nat → Int64) (wo := rc_lo dL q1) (post := fun f' => (0 : Nat) = 0 → f' 0 = r1.toInt64) hx hb hr hlocks hW hO hS (Nat.le_of_ble_eq_true rfl) (Nat.le_of_ble_eq_true rfl) rfl (fun _ => by simp [vp_updL]) dL_commands_18
  · subst hk
    subst hc
    refine vx_calli (vx_runV (As := []) (rest := [.int 0, .ref q1]) ⟨hx, hb, hml, hown, hts⟩ (k_X8_commands l hl9 hT a0 h0 s.heap.size _ _ _ _ hm) (cwV 0 hts (rc_gV tw_6_98 tw_6_99 tw_6_100 tw_1_1 tw_6_101) rfl rfl rfl (by decide +kernel) ⟨Nat.le_of_ble_eq_true rfl, Nat.le_of_ble_eq_true rfl⟩) (rc_preV hT hW hK hE hS h0 (by decide) rfl (q := (RX8, TX8, 9)) rfl []) rfl rfl hl.1 rfl (lv_room (Nat.le_of_ble_eq_true rfl)) dL_commands_3 ⟨Nat.le_of_ble_eq_true rfl, Nat.le_of_ble_eq_true rfl⟩) hS rc_Ain (rc_Afr hS) rc_Ain (fun E ce q9 u t H locs ht _ hp hB hz hq hS2 hce hcv hcl => ?_) (fun r1 u t H locs ht _ hp _ _ _ _ => absurd hp.1 (by decide))
    obtain ⟨hE1, hW2⟩ := hB
    have hW := (show rc_W Y sh rf σ' H by rw [← ht]; exact hW2)
    clear hW2
    have hO := rc_Ok ho hO hq
    have hS := rc_S2 (o := q1) hS2
    clear hS2
    have hE2 : E = "java/lang/IllegalArgumentException" := hE1
    subst hE2
    refine vx_catch (name := "java/lang/IllegalArgumentException") hown [] ⟨0, 8, 11, 47⟩ [⟨0, 8, 14, 13⟩] htab (fun z hz => nomatch hz) (by decide) (by decide) (hts _ tw_5_90) (va_Nw.use rfl (rc_E_nw hE _ nw_3_135)) hce hcv hcl ?_
    show W p l e _ s m _ below meth c H locs _ _ _ (F0 m 11 ls [.ref q9])
    refine lv_astore_n (lv' := [(2, .ref q9), (0, .ref a0), (1, .ref q1)]) hx hb dL_commands_11 rfl hl (by decide) rfl (fun ls hl => ?_)
    refine lv_iconst (v := 1) hx hb dL_commands_12 (by decide) ?_
    exact rc_wret (T := Nat → Int64) (wo := rc_lo dL q1) (post := fun f' => (3 : Nat) = 0 → f' 0 = r.toInt64) hx hb hr hlocks hW hO hS (Nat.le_of_ble_eq_true rfl) (Nat.le_of_ble_eq_true rfl) rfl (fun h => nomatch h) dL_commands_13
  · subst hk
    subst hc
    refine vx_calli (vx_runV (As := []) (rest := [.int 0, .ref q1]) ⟨hx, hb, hml, hown, hts⟩ (k_X8_commands l hl9 hT a0 h0 s.heap.size _ _ _ _ hm) (cwV 0 hts (rc_gV tw_6_98 tw_6_99 tw_6_100 tw_1_1 tw_6_101) rfl rfl rfl (by decide +kernel) ⟨Nat.le_of_ble_eq_true rfl, Nat.le_of_ble_eq_true rfl⟩) (rc_preV hT hW hK hE hS h0 (by decide) rfl (q := (RX8, TX8, 9)) rfl []) rfl rfl hl.1 rfl (lv_room (Nat.le_of_ble_eq_true rfl)) dL_commands_3 ⟨Nat.le_of_ble_eq_true rfl, Nat.le_of_ble_eq_true rfl⟩) hS rc_Ain (rc_Afr hS) rc_Ain (fun E ce q9 u t H locs ht _ hp hB hz hq hS2 hce hcv hcl => ?_) (fun r1 u t H locs ht _ hp _ _ _ _ => absurd hp.1 (by decide))
    obtain ⟨hE1, hW2⟩ := hB
    have hW := (show rc_W Y sh rf σ' H by rw [← ht]; exact hW2)
    clear hW2
    have hO := rc_Ok ho hO hq
    have hS := rc_S2 (o := q1) hS2
    clear hS2
    have hE2 : E = "java/lang/UnsupportedOperationException" := hE1
    subst hE2
    refine vx_catch (name := "java/lang/UnsupportedOperationException") hown [⟨0, 8, 11, 47⟩] ⟨0, 8, 14, 13⟩ [] htab (List.forall_mem_cons.mpr ⟨Or.inr ⟨by decide, "java/lang/IllegalArgumentException", hts _ tw_5_90, hN.2.2.1⟩, fun _ h => nomatch h⟩) (by decide) (by decide) (hts _ tw_4_76) (va_Nw.use rfl (rc_E_nw hE _ nw_4_123)) hce hcv hcl ?_
    show W p l e _ s m _ below meth c H locs _ _ _ (F0 m 14 ls [.ref q9])
    refine lv_astore_n (lv' := [(2, .ref q9), (0, .ref a0), (1, .ref q1)]) hx hb dL_commands_14 rfl hl (by decide) rfl (fun ls hl => ?_)
    refine lv_iconst (v := 2) hx hb dL_commands_15 (by decide) ?_
    exact rc_wret (T := Nat → Int64) (wo := rc_lo dL q1) (post := fun f' => (1 : Nat) = 0 → f' 0 = r.toInt64) hx hb hr hlocks hW hO hS (Nat.le_of_ble_eq_true rfl) (Nat.le_of_ble_eq_true rfl) rfl (fun h => nomatch h) dL_commands_16
set_option maxHeartbeats 4000000 in
set_option maxRecDepth 100000 in
theorem k_L_reason (l : Launch) (hl9 : l.stackTraces = false) {Y : rc_Y} {sh : Nat → Nat} {rf : rc_F} (hT : rc_T Y sh rf) (a0 : Nat) (u1 : Int32) (q2 : Nat) (h0 : sh a0 = 9) (ho : sh q2 = 0) (dL : ClassId) (f : Nat → Int64) (sz : Nat) (σ σ' : rc_S) (k : Nat) (r : Int32) (cd : Int32) (hcd : (k = 0 ∧ cd = 0) ∨ (k = 3 ∧ cd = 1) ∨ (k = 4 ∧ cd = 2)) (hm : f_X8_reason rf a0 u1 σ = some (k, r, σ')) : Met l yL_reason (Cond.codeWith yL_reason cL_reason 4 (some .int) [(0, 9, 12, 47), (0, 9, 15, 55)] :: rc_big) ({ frames := 7, cells := 1, slots := 6, locals := 102 } : Room) (rc_PL Y sh rf σ sz (rc_lo dL q2 f) [(dL, .long)] [.ref a0, .int u1, .ref q2]) (va_Qi (fun (r' : Int32) (f' : Nat → Int64) => r' = cd ∧ (k = 0 → f' 0 = r.toInt64)) (fun f' t => rc_W Y sh rf σ' t.heap ∧ va_P Y.2.1 vwCl (rc_lo dL q2 f') t.heap) (rc_A2 sh q2 sz)) 1 6 (rc_A2 sh q2 sz) := by
  refine va_MetW (cc := cL_reason) (maxL := 4) (ret := (some .int)) (hh := [(0, 9, 12, 47), (0, 9, 15, 55)]) (by decide +kernel) rfl ?_
  intro p e s m args below meth c s₁ B hml hv
  obtain ⟨rfl, hsz, ⟨hW, hK, hE⟩, hO, hK2, hN⟩ := hv
  have hx := B.exec
  have hb := B.bytes
  have hr := B.returns
  have hts0 : ∀ w ∈ (Cond.codeWith yL_reason cL_reason 4 (some .int) [(0, 9, 12, 47), (0, 9, 15, 55)] :: rc_big), w.before _ s = true := atoms_spec (ws := Cond.codeWith yL_reason cL_reason 4 (some .int) [(0, 9, 12, 47), (0, 9, 15, 55)] :: rc_big) B.pre
  have htab := vx_table (x := yL_reason) B (hts0 _ List.mem_cons_self)
  have hts : ∀ w ∈ rc_big, w.before _ s = true := fun w h => hts0 w (List.mem_cons_of_mem _ h)
  have hown : s.vm.findClass RL = some m.cls := findClass_of_methodNamed B.named
  have hlocks := B.notSynchronized
  clear B
  subst hsz
  have hS : va_S (rc_A sh s.heap.size) s.heap s.heap [] := va_S.rf
  have hl := lv_entry ([.ref a0, .int u1, .ref q2]) (n := 4) (Nat.le_of_ble_eq_true rfl)
  rw [lg_entry_eq]
  generalize (lg_sl ([.ref a0, .int u1, .ref q2]) ++ List.replicate (4 - (lg_sl ([.ref a0, .int u1, .ref q2])).length) Slot.unset).toArray = ls at hl ⊢
  have hl : lv_has ls 4 [(0, .ref a0), (1, .int u1), (2, .ref q2)] := hl
  refine lv_aload_n hx hb dL_reason_0 rfl (lv_at hl 2 rfl) ?_
  refine lv_iconst (v := 0) hx hb dL_reason_1 (by decide) ?_
  refine lv_aload_n hx hb dL_reason_2 rfl (lv_at hl 0 rfl) ?_
  refine lv_iload_n hx hb dL_reason_3 rfl (lv_at hl 1 rfl) ?_
  rcases hcd with ⟨hk, hc⟩ | ⟨hk, hc⟩ | ⟨hk, hc⟩
  · subst hk
    subst hc
    refine vx_calli (vx_runV (As := [.int u1]) (rest := [.int 0, .ref q2]) ⟨hx, hb, hml, hown, hts⟩ (k_X8_reason l hl9 hT a0 u1 h0 s.heap.size _ _ _ _ hm) (cwV 1 hts (rc_gV tw_6_209 tw_6_210 tw_6_211 tw_1_1 tw_6_212) rfl rfl rfl (by decide +kernel) ⟨Nat.le_of_ble_eq_true rfl, Nat.le_of_ble_eq_true rfl⟩) (rc_preV hT hW hK hE hS h0 (by decide) rfl (q := (RX8, TX8, 9)) rfl [.int u1]) rfl rfl hl.1 rfl (lv_room (Nat.le_of_ble_eq_true rfl)) dL_reason_4 ⟨Nat.le_of_ble_eq_true rfl, Nat.le_of_ble_eq_true rfl⟩) hS rc_Ain (rc_Afr hS) rc_Ain (fun E ce q9 u t H locs ht _ hp _ _ _ _ _ _ _ => absurd rfl hp) (fun r1 u t H locs ht _ hp hW2 hz hq hS2 => ?_)
    obtain ⟨-, rfl⟩ := hp
    have hW := (show rc_W Y sh rf σ' H by rw [← ht]; exact hW2)
    clear hW2
    have hO := rc_Ok ho hO hq
    have hS := rc_S2 (o := q2) hS2
    clear hS2
    refine lv_i2l hx hb dL_reason_7 rfl ?_
    refine rc_last hx hb hK2 hO hW ho hS dL_reason_8 (fun H locs hO hW hS => ?_)
    refine lv_goto (tgt := 18) hx hb dL_reason_9 (by decide) ?_
    refine lv_iconst (v := 0) hx hb dL_reason_18 (by decide) ?_
    exact rc_wret (T := Nat → Int64) (wo := rc_lo dL q2) (post := fun f' => (0 : Nat) = 0 → f' 0 = r1.toInt64) hx hb hr hlocks hW hO hS (Nat.le_of_ble_eq_true rfl) (Nat.le_of_ble_eq_true rfl) rfl (fun _ => by simp [vp_updL]) dL_reason_19
  · subst hk
    subst hc
    refine vx_calli (vx_runV (As := [.int u1]) (rest := [.int 0, .ref q2]) ⟨hx, hb, hml, hown, hts⟩ (k_X8_reason l hl9 hT a0 u1 h0 s.heap.size _ _ _ _ hm) (cwV 1 hts (rc_gV tw_6_209 tw_6_210 tw_6_211 tw_1_1 tw_6_212) rfl rfl rfl (by decide +kernel) ⟨Nat.le_of_ble_eq_true rfl, Nat.le_of_ble_eq_true rfl⟩) (rc_preV hT hW hK hE hS h0 (by decide) rfl (q := (RX8, TX8, 9)) rfl [.int u1]) rfl rfl hl.1 rfl (lv_room (Nat.le_of_ble_eq_true rfl)) dL_reason_4 ⟨Nat.le_of_ble_eq_true rfl, Nat.le_of_ble_eq_true rfl⟩) hS rc_Ain (rc_Afr hS) rc_Ain (fun E ce q9 u t H locs ht _ hp hB hz hq hS2 hce hcv hcl => ?_) (fun r1 u t H locs ht _ hp _ _ _ _ => absurd hp.1 (by decide))
    obtain ⟨hE1, hW2⟩ := hB
    have hW := (show rc_W Y sh rf σ' H by rw [← ht]; exact hW2)
    clear hW2
    have hO := rc_Ok ho hO hq
    have hS := rc_S2 (o := q2) hS2
    clear hS2
    have hE2 : E = "java/lang/IllegalArgumentException" := hE1
    subst hE2
    refine vx_catch (name := "java/lang/IllegalArgumentException") hown [] ⟨0, 9, 12, 47⟩ [⟨0, 9, 15, 55⟩] htab (fun z hz => nomatch hz) (by decide) (by decide) (hts _ tw_5_90) (va_Nw.use rfl (rc_E_nw hE _ nw_3_135)) hce hcv hcl ?_
    show W p l e _ s m _ below meth c H locs _ _ _ (F0 m 12 ls [.ref q9])
    refine lv_astore_n (lv' := [(3, .ref q9), (0, .ref a0), (1, .int u1), (2, .ref q2)]) hx hb dL_reason_12 rfl hl (by decide) rfl (fun ls hl => ?_)
    refine lv_iconst (v := 1) hx hb dL_reason_13 (by decide) ?_
    exact rc_wret (T := Nat → Int64) (wo := rc_lo dL q2) (post := fun f' => (3 : Nat) = 0 → f' 0 = r.toInt64) hx hb hr hlocks hW hO hS (Nat.le_of_ble_eq_true rfl) (Nat.le_of_ble_eq_true rfl) rfl (fun h => nomatch h) dL_reason_14
  · subst hk
    subst hc
    refine vx_calli (vx_runV (As := [.int u1]) (rest := [.int 0, .ref q2]) ⟨hx, hb, hml, hown, hts⟩ (k_X8_reason l hl9 hT a0 u1 h0 s.heap.size _ _ _ _ hm) (cwV 1 hts (rc_gV tw_6_209 tw_6_210 tw_6_211 tw_1_1 tw_6_212) rfl rfl rfl (by decide +kernel) ⟨Nat.le_of_ble_eq_true rfl, Nat.le_of_ble_eq_true rfl⟩) (rc_preV hT hW hK hE hS h0 (by decide) rfl (q := (RX8, TX8, 9)) rfl [.int u1]) rfl rfl hl.1 rfl (lv_room (Nat.le_of_ble_eq_true rfl)) dL_reason_4 ⟨Nat.le_of_ble_eq_true rfl, Nat.le_of_ble_eq_true rfl⟩) hS rc_Ain (rc_Afr hS) rc_Ain (fun E ce q9 u t H locs ht _ hp hB hz hq hS2 hce hcv hcl => ?_) (fun r1 u t H locs ht _ hp _ _ _ _ => absurd hp.1 (by decide))
    obtain ⟨hE1, hW2⟩ := hB
    have hW := (show rc_W Y sh rf σ' H by rw [← ht]; exact hW2)
    clear hW2
    have hO := rc_Ok ho hO hq
    have hS := rc_S2 (o := q2) hS2
    clear hS2
    have hE2 : E = "java/util/NoSuchElementException" := hE1
    subst hE2
    refine vx_catch (name := "java/util/NoSuchElementException") hown [⟨0, 9, 12, 47⟩] ⟨0, 9, 15, 55⟩ [] htab (List.forall_mem_cons.mpr ⟨Or.inr ⟨by decide, "java/lang/IllegalArgumentException", hts _ tw_5_90, hN.2.2.2.2⟩, fun _ h => nomatch h⟩) (by decide) (by decide) (hts _ tw_5_146) (va_Nw.use rfl (rc_E_nw hE _ nw_5_158)) hce hcv hcl ?_
    show W p l e _ s m _ below meth c H locs _ _ _ (F0 m 15 ls [.ref q9])
    refine lv_astore_n (lv' := [(3, .ref q9), (0, .ref a0), (1, .int u1), (2, .ref q2)]) hx hb dL_reason_15 rfl hl (by decide) rfl (fun ls hl => ?_)
    refine lv_iconst (v := 2) hx hb dL_reason_16 (by decide) ?_
    exact rc_wret (T := Nat → Int64) (wo := rc_lo dL q2) (post := fun f' => (4 : Nat) = 0 → f' 0 = r.toInt64) hx hb hr hlocks hW hO hS (Nat.le_of_ble_eq_true rfl) (Nat.le_of_ble_eq_true rfl) rfl (fun h => nomatch h) dL_reason_17
set_option maxHeartbeats 4000000 in
set_option maxRecDepth 100000 in
theorem k_L_line (l : Launch) (hl9 : l.stackTraces = false) {Y : rc_Y} {sh : Nat → Nat} {rf : rc_F} (hT : rc_T Y sh rf) (a0 : Nat) (u1 : Int32) (q2 : Nat) (h0 : sh a0 = 9) (ho : sh q2 = 0) (dL : ClassId) (f : Nat → Int64) (sz : Nat) (σ σ' : rc_S) (k : Nat) (r : Int32) (cd : Int32) (hcd : (k = 0 ∧ cd = 0) ∨ (k = 2 ∧ cd = 1)) (hm : f_X8_line rf a0 u1 σ = some (k, r, σ')) : Met l yL_line (Cond.codeWith yL_line cL_line 4 (some .int) [(0, 9, 12, 45)] :: rc_big) ({ frames := 8, cells := 1, slots := 6, locals := 124 } : Room) (rc_PL Y sh rf σ sz (rc_lo dL q2 f) [(dL, .long)] [.ref a0, .int u1, .ref q2]) (va_Qi (fun (r' : Int32) (f' : Nat → Int64) => r' = cd ∧ (k = 0 → f' 0 = r.toInt64)) (fun f' t => rc_W Y sh rf σ' t.heap ∧ va_P Y.2.1 vwCl (rc_lo dL q2 f') t.heap) (rc_A2 sh q2 sz)) 1 6 (rc_A2 sh q2 sz) := by
  refine va_MetW (cc := cL_line) (maxL := 4) (ret := (some .int)) (hh := [(0, 9, 12, 45)]) (by decide +kernel) rfl ?_
  intro p e s m args below meth c s₁ B hml hv
  obtain ⟨rfl, hsz, ⟨hW, hK, hE⟩, hO, hK2, hN⟩ := hv
  have hx := B.exec
  have hb := B.bytes
  have hr := B.returns
  have hts0 : ∀ w ∈ (Cond.codeWith yL_line cL_line 4 (some .int) [(0, 9, 12, 45)] :: rc_big), w.before _ s = true := atoms_spec (ws := Cond.codeWith yL_line cL_line 4 (some .int) [(0, 9, 12, 45)] :: rc_big) B.pre
  have htab := vx_table (x := yL_line) B (hts0 _ List.mem_cons_self)
  have hts : ∀ w ∈ rc_big, w.before _ s = true := fun w h => hts0 w (List.mem_cons_of_mem _ h)
  have hown : s.vm.findClass RL = some m.cls := findClass_of_methodNamed B.named
  have hlocks := B.notSynchronized
  clear B
  subst hsz
  have hS : va_S (rc_A sh s.heap.size) s.heap s.heap [] := va_S.rf
  have hl := lv_entry ([.ref a0, .int u1, .ref q2]) (n := 4) (Nat.le_of_ble_eq_true rfl)
  rw [lg_entry_eq]
  generalize (lg_sl ([.ref a0, .int u1, .ref q2]) ++ List.replicate (4 - (lg_sl ([.ref a0, .int u1, .ref q2])).length) Slot.unset).toArray = ls at hl ⊢
  have hl : lv_has ls 4 [(0, .ref a0), (1, .int u1), (2, .ref q2)] := hl
  refine lv_aload_n hx hb dL_line_0 rfl (lv_at hl 2 rfl) ?_
  refine lv_iconst (v := 0) hx hb dL_line_1 (by decide) ?_
  refine lv_aload_n hx hb dL_line_2 rfl (lv_at hl 0 rfl) ?_
  refine lv_iload_n hx hb dL_line_3 rfl (lv_at hl 1 rfl) ?_
  rcases hcd with ⟨hk, hc⟩ | ⟨hk, hc⟩
  · subst hk
    subst hc
    refine vx_calli (vx_runV (As := [.int u1]) (rest := [.int 0, .ref q2]) ⟨hx, hb, hml, hown, hts⟩ (k_X8_line l hl9 hT a0 u1 h0 s.heap.size _ _ _ _ hm) (cwV 1 hts (rc_gV tw_6_216 tw_6_217 tw_6_218 tw_1_1 tw_6_219) rfl rfl rfl (by decide +kernel) ⟨Nat.le_of_ble_eq_true rfl, Nat.le_of_ble_eq_true rfl⟩) (rc_preV hT hW hK hE hS h0 (by decide) rfl (q := (RX8, TX8, 9)) rfl [.int u1]) rfl rfl hl.1 rfl (lv_room (Nat.le_of_ble_eq_true rfl)) dL_line_4 ⟨Nat.le_of_ble_eq_true rfl, Nat.le_of_ble_eq_true rfl⟩) hS rc_Ain (rc_Afr hS) rc_Ain (fun E ce q9 u t H locs ht _ hp _ _ _ _ _ _ _ => absurd rfl hp) (fun r1 u t H locs ht _ hp hW2 hz hq hS2 => ?_)
    obtain ⟨-, rfl⟩ := hp
    have hW := (show rc_W Y sh rf σ' H by rw [← ht]; exact hW2)
    clear hW2
    have hO := rc_Ok ho hO hq
    have hS := rc_S2 (o := q2) hS2
    clear hS2
    refine lv_i2l hx hb dL_line_7 rfl ?_
    refine rc_last hx hb hK2 hO hW ho hS dL_line_8 (fun H locs hO hW hS => ?_)
    refine lv_goto (tgt := 15) hx hb dL_line_9 (by decide) ?_
    refine lv_iconst (v := 0) hx hb dL_line_15 (by decide) ?_
    exact rc_wret (T := Nat → Int64) (wo := rc_lo dL q2) (post := fun f' => (0 : Nat) = 0 → f' 0 = r1.toInt64) hx hb hr hlocks hW hO hS (Nat.le_of_ble_eq_true rfl) (Nat.le_of_ble_eq_true rfl) rfl (fun _ => by simp [vp_updL]) dL_line_16
  · subst hk
    subst hc
    refine vx_calli (vx_runV (As := [.int u1]) (rest := [.int 0, .ref q2]) ⟨hx, hb, hml, hown, hts⟩ (k_X8_line l hl9 hT a0 u1 h0 s.heap.size _ _ _ _ hm) (cwV 1 hts (rc_gV tw_6_216 tw_6_217 tw_6_218 tw_1_1 tw_6_219) rfl rfl rfl (by decide +kernel) ⟨Nat.le_of_ble_eq_true rfl, Nat.le_of_ble_eq_true rfl⟩) (rc_preV hT hW hK hE hS h0 (by decide) rfl (q := (RX8, TX8, 9)) rfl [.int u1]) rfl rfl hl.1 rfl (lv_room (Nat.le_of_ble_eq_true rfl)) dL_line_4 ⟨Nat.le_of_ble_eq_true rfl, Nat.le_of_ble_eq_true rfl⟩) hS rc_Ain (rc_Afr hS) rc_Ain (fun E ce q9 u t H locs ht _ hp hB hz hq hS2 hce hcv hcl => ?_) (fun r1 u t H locs ht _ hp _ _ _ _ => absurd hp.1 (by decide))
    obtain ⟨hE1, hW2⟩ := hB
    have hW := (show rc_W Y sh rf σ' H by rw [← ht]; exact hW2)
    clear hW2
    have hO := rc_Ok ho hO hq
    have hS := rc_S2 (o := q2) hS2
    clear hS2
    have hE2 : E = "java/lang/IndexOutOfBoundsException" := hE1
    subst hE2
    refine vx_catch (name := "java/lang/IndexOutOfBoundsException") hown [] ⟨0, 9, 12, 45⟩ [] htab (fun z hz => nomatch hz) (by decide) (by decide) (hts _ tw_5_87) (va_Nw.use rfl (rc_E_nw hE _ nw_5_98)) hce hcv hcl ?_
    show W p l e _ s m _ below meth c H locs _ _ _ (F0 m 12 ls [.ref q9])
    refine lv_astore_n (lv' := [(3, .ref q9), (0, .ref a0), (1, .int u1), (2, .ref q2)]) hx hb dL_line_12 rfl hl (by decide) rfl (fun ls hl => ?_)
    refine lv_iconst (v := 1) hx hb dL_line_13 (by decide) ?_
    exact rc_wret (T := Nat → Int64) (wo := rc_lo dL q2) (post := fun f' => (2 : Nat) = 0 → f' 0 = r.toInt64) hx hb hr hlocks hW hO hS (Nat.le_of_ble_eq_true rfl) (Nat.le_of_ble_eq_true rfl) rfl (fun h => nomatch h) dL_line_14
set_option maxHeartbeats 4000000 in
set_option maxRecDepth 100000 in
theorem k_L_character (l : Launch) (hl9 : l.stackTraces = false) {Y : rc_Y} {sh : Nat → Nat} {rf : rc_F} (hT : rc_T Y sh rf) (a0 : Nat) (u1 : Int32) (q2 : Nat) (h0 : sh a0 = 9) (ho : sh q2 = 0) (dL : ClassId) (f : Nat → Int64) (sz : Nat) (σ σ' : rc_S) (k : Nat) (r : Int32) (cd : Int32) (hcd : (k = 0 ∧ cd = 0) ∨ (k = 2 ∧ cd = 1)) (hm : f_X8_character rf a0 u1 σ = some (k, r, σ')) : Met l yL_character (Cond.codeWith yL_character cL_character 4 (some .int) [(0, 9, 12, 45)] :: rc_big) ({ frames := 7, cells := 1, slots := 6, locals := 109 } : Room) (rc_PL Y sh rf σ sz (rc_lo dL q2 f) [(dL, .long)] [.ref a0, .int u1, .ref q2]) (va_Qi (fun (r' : Int32) (f' : Nat → Int64) => r' = cd ∧ (k = 0 → f' 0 = r.toInt64)) (fun f' t => rc_W Y sh rf σ' t.heap ∧ va_P Y.2.1 vwCl (rc_lo dL q2 f') t.heap) (rc_A2 sh q2 sz)) 1 6 (rc_A2 sh q2 sz) := by
  refine va_MetW (cc := cL_character) (maxL := 4) (ret := (some .int)) (hh := [(0, 9, 12, 45)]) (by decide +kernel) rfl ?_
  intro p e s m args below meth c s₁ B hml hv
  obtain ⟨rfl, hsz, ⟨hW, hK, hE⟩, hO, hK2, hN⟩ := hv
  have hx := B.exec
  have hb := B.bytes
  have hr := B.returns
  have hts0 : ∀ w ∈ (Cond.codeWith yL_character cL_character 4 (some .int) [(0, 9, 12, 45)] :: rc_big), w.before _ s = true := atoms_spec (ws := Cond.codeWith yL_character cL_character 4 (some .int) [(0, 9, 12, 45)] :: rc_big) B.pre
  have htab := vx_table (x := yL_character) B (hts0 _ List.mem_cons_self)
  have hts : ∀ w ∈ rc_big, w.before _ s = true := fun w h => hts0 w (List.mem_cons_of_mem _ h)
  have hown : s.vm.findClass RL = some m.cls := findClass_of_methodNamed B.named
  have hlocks := B.notSynchronized
  clear B
  subst hsz
  have hS : va_S (rc_A sh s.heap.size) s.heap s.heap [] := va_S.rf
  have hl := lv_entry ([.ref a0, .int u1, .ref q2]) (n := 4) (Nat.le_of_ble_eq_true rfl)
  rw [lg_entry_eq]
  generalize (lg_sl ([.ref a0, .int u1, .ref q2]) ++ List.replicate (4 - (lg_sl ([.ref a0, .int u1, .ref q2])).length) Slot.unset).toArray = ls at hl ⊢
  have hl : lv_has ls 4 [(0, .ref a0), (1, .int u1), (2, .ref q2)] := hl
  refine lv_aload_n hx hb dL_character_0 rfl (lv_at hl 2 rfl) ?_
  refine lv_iconst (v := 0) hx hb dL_character_1 (by decide) ?_
  refine lv_aload_n hx hb dL_character_2 rfl (lv_at hl 0 rfl) ?_
  refine lv_iload_n hx hb dL_character_3 rfl (lv_at hl 1 rfl) ?_
  rcases hcd with ⟨hk, hc⟩ | ⟨hk, hc⟩
  · subst hk
    subst hc
    refine vx_calli (vx_runV (As := [.int u1]) (rest := [.int 0, .ref q2]) ⟨hx, hb, hml, hown, hts⟩ (k_X8_character l hl9 hT a0 u1 h0 s.heap.size _ _ _ _ hm) (cwV 1 hts (rc_gV tw_6_223 tw_6_224 tw_6_225 tw_1_1 tw_6_226) rfl rfl rfl (by decide +kernel) ⟨Nat.le_of_ble_eq_true rfl, Nat.le_of_ble_eq_true rfl⟩) (rc_preV hT hW hK hE hS h0 (by decide) rfl (q := (RX8, TX8, 9)) rfl [.int u1]) rfl rfl hl.1 rfl (lv_room (Nat.le_of_ble_eq_true rfl)) dL_character_4 ⟨Nat.le_of_ble_eq_true rfl, Nat.le_of_ble_eq_true rfl⟩) hS rc_Ain (rc_Afr hS) rc_Ain (fun E ce q9 u t H locs ht _ hp _ _ _ _ _ _ _ => absurd rfl hp) (fun r1 u t H locs ht _ hp hW2 hz hq hS2 => ?_)
    obtain ⟨-, rfl⟩ := hp
    have hW := (show rc_W Y sh rf σ' H by rw [← ht]; exact hW2)
    clear hW2
    have hO := rc_Ok ho hO hq
    have hS := rc_S2 (o := q2) hS2
    clear hS2
    refine lv_i2l hx hb dL_character_7 rfl ?_
    refine rc_last hx hb hK2 hO hW ho hS dL_character_8 (fun H locs hO hW hS => ?_)
    refine lv_goto (tgt := 15) hx hb dL_character_9 (by decide) ?_
    refine lv_iconst (v := 0) hx hb dL_character_15 (by decide) ?_
    exact rc_wret (T := Nat → Int64) (wo := rc_lo dL q2) (post := fun f' => (0 : Nat) = 0 → f' 0 = r1.toInt64) hx hb hr hlocks hW hO hS (Nat.le_of_ble_eq_true rfl) (Nat.le_of_ble_eq_true rfl) rfl (fun _ => by simp [vp_updL]) dL_character_16
  · subst hk
    subst hc
    refine vx_calli (vx_runV (As := [.int u1]) (rest := [.int 0, .ref q2]) ⟨hx, hb, hml, hown, hts⟩ (k_X8_character l hl9 hT a0 u1 h0 s.heap.size _ _ _ _ hm) (cwV 1 hts (rc_gV tw_6_223 tw_6_224 tw_6_225 tw_1_1 tw_6_226) rfl rfl rfl (by decide +kernel) ⟨Nat.le_of_ble_eq_true rfl, Nat.le_of_ble_eq_true rfl⟩) (rc_preV hT hW hK hE hS h0 (by decide) rfl (q := (RX8, TX8, 9)) rfl [.int u1]) rfl rfl hl.1 rfl (lv_room (Nat.le_of_ble_eq_true rfl)) dL_character_4 ⟨Nat.le_of_ble_eq_true rfl, Nat.le_of_ble_eq_true rfl⟩) hS rc_Ain (rc_Afr hS) rc_Ain (fun E ce q9 u t H locs ht _ hp hB hz hq hS2 hce hcv hcl => ?_) (fun r1 u t H locs ht _ hp _ _ _ _ => absurd hp.1 (by decide))
    obtain ⟨hE1, hW2⟩ := hB
    have hW := (show rc_W Y sh rf σ' H by rw [← ht]; exact hW2)
    clear hW2
    have hO := rc_Ok ho hO hq
    have hS := rc_S2 (o := q2) hS2
    clear hS2
    have hE2 : E = "java/lang/IndexOutOfBoundsException" := hE1
    subst hE2
    refine vx_catch (name := "java/lang/IndexOutOfBoundsException") hown [] ⟨0, 9, 12, 45⟩ [] htab (fun z hz => nomatch hz) (by decide) (by decide) (hts _ tw_5_87) (va_Nw.use rfl (rc_E_nw hE _ nw_5_98)) hce hcv hcl ?_
    show W p l e _ s m _ below meth c H locs _ _ _ (F0 m 12 ls [.ref q9])
    refine lv_astore_n (lv' := [(3, .ref q9), (0, .ref a0), (1, .int u1), (2, .ref q2)]) hx hb dL_character_12 rfl hl (by decide) rfl (fun ls hl => ?_)
    refine lv_iconst (v := 1) hx hb dL_character_13 (by decide) ?_
    exact rc_wret (T := Nat → Int64) (wo := rc_lo dL q2) (post := fun f' => (2 : Nat) = 0 → f' 0 = r.toInt64) hx hb hr hlocks hW hO hS (Nat.le_of_ble_eq_true rfl) (Nat.le_of_ble_eq_true rfl) rfl (fun h => nomatch h) dL_character_14
set_option maxHeartbeats 4000000 in
set_option maxRecDepth 100000 in
theorem k_L_meanNote (l : Launch) (hl9 : l.stackTraces = false) {Y : rc_Y} {sh : Nat → Nat} {rf : rc_F} (hT : rc_T Y sh rf) (a0 : Nat) (q1 : Nat) (h0 : sh a0 = 9) (ho : sh q1 = 0) (dL : ClassId) (f : Nat → UInt64) (sz : Nat) (σ σ' : rc_S) (k : Nat) (r : UInt64) (cd : Int32) (hcd : (k = 0 ∧ cd = 0) ∨ (k = 6 ∧ cd = 1)) (hm : f_X8_meanNote rf a0 σ = some (k, r, σ')) : Met l yL_meanNote (Cond.codeWith yL_meanNote cL_meanNote 3 (some .int) [(0, 7, 10, 118)] :: rc_big) ({ frames := 7, cells := 1, slots := 6, locals := 128 } : Room) (rc_PL Y sh rf σ sz (rc_do dL q1 f) [(dL, .double)] [.ref a0, .ref q1]) (va_Qi (fun (r' : Int32) (f' : Nat → UInt64) => r' = cd ∧ (k = 0 → f' 0 = r)) (fun f' t => rc_W Y sh rf σ' t.heap ∧ va_P Y.2.1 vwCl (rc_do dL q1 f') t.heap) (rc_A2 sh q1 sz)) 1 6 (rc_A2 sh q1 sz) := by
  refine va_MetW (cc := cL_meanNote) (maxL := 3) (ret := (some .int)) (hh := [(0, 7, 10, 118)]) (by decide +kernel) rfl ?_
  intro p e s m args below meth c s₁ B hml hv
  obtain ⟨rfl, hsz, ⟨hW, hK, hE⟩, hO, hK2, hN⟩ := hv
  have hx := B.exec
  have hb := B.bytes
  have hr := B.returns
  have hts0 : ∀ w ∈ (Cond.codeWith yL_meanNote cL_meanNote 3 (some .int) [(0, 7, 10, 118)] :: rc_big), w.before _ s = true := atoms_spec (ws := Cond.codeWith yL_meanNote cL_meanNote 3 (some .int) [(0, 7, 10, 118)] :: rc_big) B.pre
  have htab := vx_table (x := yL_meanNote) B (hts0 _ List.mem_cons_self)
  have hts : ∀ w ∈ rc_big, w.before _ s = true := fun w h => hts0 w (List.mem_cons_of_mem _ h)
  have hown : s.vm.findClass RL = some m.cls := findClass_of_methodNamed B.named
  have hlocks := B.notSynchronized
  clear B
  subst hsz
  have hS : va_S (rc_A sh s.heap.size) s.heap s.heap [] := va_S.rf
  have hl := lv_entry ([.ref a0, .ref q1]) (n := 3) (Nat.le_of_ble_eq_true rfl)
  rw [lg_entry_eq]
  generalize (lg_sl ([.ref a0, .ref q1]) ++ List.replicate (3 - (lg_sl ([.ref a0, .ref q1])).length) Slot.unset).toArray = ls at hl ⊢
  have hl : lv_has ls 3 [(0, .ref a0), (1, .ref q1)] := hl
  refine lv_aload_n hx hb dL_meanNote_0 rfl (lv_at hl 1 rfl) ?_
  refine lv_iconst (v := 0) hx hb dL_meanNote_1 (by decide) ?_
  refine lv_aload_n hx hb dL_meanNote_2 rfl (lv_at hl 0 rfl) ?_
  rcases hcd with ⟨hk, hc⟩ | ⟨hk, hc⟩
  · subst hk
    subst hc
    refine vx_calld (vx_runV (As := []) (rest := [.int 0, .ref q1]) ⟨hx, hb, hml, hown, hts⟩ (k_X8_meanNote l hl9 hT a0 h0 s.heap.size _ _ _ _ hm) (cwV 0 hts (rc_gV tw_7_14 tw_7_15 tw_7_16 tw_1_1 tw_7_17) rfl rfl rfl (by decide +kernel) ⟨Nat.le_of_ble_eq_true rfl, Nat.le_of_ble_eq_true rfl⟩) (rc_preV hT hW hK hE hS h0 (by decide) rfl (q := (RX8, TX8, 9)) rfl []) rfl rfl hl.1 rfl (lv_room (Nat.le_of_ble_eq_true rfl)) dL_meanNote_3 ⟨Nat.le_of_ble_eq_true rfl, Nat.le_of_ble_eq_true rfl⟩) hS rc_Ain (rc_Afr hS) rc_Ain (fun E ce q9 u t H locs ht _ hp _ _ _ _ _ _ _ => absurd rfl hp) (fun r1 u t H locs ht _ hp hW2 hz hq hS2 => ?_)
    obtain ⟨-, rfl⟩ := hp
    have hW := (show rc_W Y sh rf σ' H by rw [← ht]; exact hW2)
    clear hW2
    have hO := rc_Ok ho hO hq
    have hS := rc_S2 (o := q1) hS2
    clear hS2
    refine rc_dast hx hb hK2 hO hW ho hS dL_meanNote_6 (fun H locs hO hW hS => ?_)
    refine lv_goto (tgt := 13) hx hb dL_meanNote_7 (by decide) ?_
    refine lv_iconst (v := 0) hx hb dL_meanNote_13 (by decide) ?_
    exact rc_wret (T := Nat → UInt64) (wo := rc_do dL q1) (post := fun f' => (0 : Nat) = 0 → f' 0 = r1) hx hb hr hlocks hW hO hS (Nat.le_of_ble_eq_true rfl) (Nat.le_of_ble_eq_true rfl) rfl (fun _ => by simp [vf_upd]) dL_meanNote_14
  · subst hk
    subst hc
    refine vx_calld (vx_runV (As := []) (rest := [.int 0, .ref q1]) ⟨hx, hb, hml, hown, hts⟩ (k_X8_meanNote l hl9 hT a0 h0 s.heap.size _ _ _ _ hm) (cwV 0 hts (rc_gV tw_7_14 tw_7_15 tw_7_16 tw_1_1 tw_7_17) rfl rfl rfl (by decide +kernel) ⟨Nat.le_of_ble_eq_true rfl, Nat.le_of_ble_eq_true rfl⟩) (rc_preV hT hW hK hE hS h0 (by decide) rfl (q := (RX8, TX8, 9)) rfl []) rfl rfl hl.1 rfl (lv_room (Nat.le_of_ble_eq_true rfl)) dL_meanNote_3 ⟨Nat.le_of_ble_eq_true rfl, Nat.le_of_ble_eq_true rfl⟩) hS rc_Ain (rc_Afr hS) rc_Ain (fun E ce q9 u t H locs ht _ hp hB hz hq hS2 hce hcv hcl => ?_) (fun r1 u t H locs ht _ hp _ _ _ _ => absurd hp.1 (by decide))
    obtain ⟨hE1, hW2⟩ := hB
    have hW := (show rc_W Y sh rf σ' H by rw [← ht]; exact hW2)
    clear hW2
    have hO := rc_Ok ho hO hq
    have hS := rc_S2 (o := q1) hS2
    clear hS2
    have hE2 : E = "java/lang/ArithmeticException" := hE1
    subst hE2
    refine vx_catch (name := "java/lang/ArithmeticException") hown [] ⟨0, 7, 10, 118⟩ [] htab (fun z hz => nomatch hz) (by decide) (by decide) (hts _ tw_7_0) (va_Nw.use rfl (rc_E_nw hE _ nw_7_12)) hce hcv hcl ?_
    show W p l e _ s m _ below meth c H locs _ _ _ (F0 m 10 ls [.ref q9])
    refine lv_astore_n (lv' := [(2, .ref q9), (0, .ref a0), (1, .ref q1)]) hx hb dL_meanNote_10 rfl hl (by decide) rfl (fun ls hl => ?_)
    refine lv_iconst (v := 1) hx hb dL_meanNote_11 (by decide) ?_
    exact rc_wret (T := Nat → UInt64) (wo := rc_do dL q1) (post := fun f' => (6 : Nat) = 0 → f' 0 = r) hx hb hr hlocks hW hO hS (Nat.le_of_ble_eq_true rfl) (Nat.le_of_ble_eq_true rfl) rfl (fun h => nomatch h) dL_meanNote_12
set_option maxHeartbeats 4000000 in
set_option maxRecDepth 100000 in
theorem k_L_hailShare (l : Launch) (hl9 : l.stackTraces = false) {Y : rc_Y} {sh : Nat → Nat} {rf : rc_F} (hT : rc_T Y sh rf) (a0 : Nat) (q1 : Nat) (h0 : sh a0 = 9) (ho : sh q1 = 0) (dL : ClassId) (f : Nat → UInt64) (sz : Nat) (σ σ' : rc_S) (k : Nat) (r : UInt32) (cd : Int32) (hcd : (k = 0 ∧ cd = 0) ∨ (k = 6 ∧ cd = 1)) (hnn : k = 0 → vf_n64 (FP.f2d r)) (hm : f_X8_hailShare rf a0 σ = some (k, r, σ')) : Met l yL_hailShare (Cond.codeWith yL_hailShare cL_hailShare 3 (some .int) [(0, 8, 11, 118)] :: rc_big) ({ frames := 7, cells := 1, slots := 6, locals := 102 } : Room) (rc_PL Y sh rf σ sz (rc_do dL q1 f) [(dL, .double)] [.ref a0, .ref q1]) (va_Qi (fun (r' : Int32) (f' : Nat → UInt64) => r' = cd ∧ (k = 0 → f' 0 = FP.f2d r)) (fun f' t => rc_W Y sh rf σ' t.heap ∧ va_P Y.2.1 vwCl (rc_do dL q1 f') t.heap) (rc_A2 sh q1 sz)) 1 6 (rc_A2 sh q1 sz) := by
  refine va_MetW (cc := cL_hailShare) (maxL := 3) (ret := (some .int)) (hh := [(0, 8, 11, 118)]) (by decide +kernel) rfl ?_
  intro p e s m args below meth c s₁ B hml hv
  obtain ⟨rfl, hsz, ⟨hW, hK, hE⟩, hO, hK2, hN⟩ := hv
  have hx := B.exec
  have hb := B.bytes
  have hr := B.returns
  have hts0 : ∀ w ∈ (Cond.codeWith yL_hailShare cL_hailShare 3 (some .int) [(0, 8, 11, 118)] :: rc_big), w.before _ s = true := atoms_spec (ws := Cond.codeWith yL_hailShare cL_hailShare 3 (some .int) [(0, 8, 11, 118)] :: rc_big) B.pre
  have htab := vx_table (x := yL_hailShare) B (hts0 _ List.mem_cons_self)
  have hts : ∀ w ∈ rc_big, w.before _ s = true := fun w h => hts0 w (List.mem_cons_of_mem _ h)
  have hown : s.vm.findClass RL = some m.cls := findClass_of_methodNamed B.named
  have hlocks := B.notSynchronized
  clear B
  subst hsz
  have hS : va_S (rc_A sh s.heap.size) s.heap s.heap [] := va_S.rf
  have hl := lv_entry ([.ref a0, .ref q1]) (n := 3) (Nat.le_of_ble_eq_true rfl)
  rw [lg_entry_eq]
  generalize (lg_sl ([.ref a0, .ref q1]) ++ List.replicate (3 - (lg_sl ([.ref a0, .ref q1])).length) Slot.unset).toArray = ls at hl ⊢
  have hl : lv_has ls 3 [(0, .ref a0), (1, .ref q1)] := hl
  refine lv_aload_n hx hb dL_hailShare_0 rfl (lv_at hl 1 rfl) ?_
  refine lv_iconst (v := 0) hx hb dL_hailShare_1 (by decide) ?_
  refine lv_aload_n hx hb dL_hailShare_2 rfl (lv_at hl 0 rfl) ?_
  rcases hcd with ⟨hk, hc⟩ | ⟨hk, hc⟩
  · subst hk
    subst hc
    refine vx_callf (vx_runV (As := []) (rest := [.int 0, .ref q1]) ⟨hx, hb, hml, hown, hts⟩ (k_X8_hailShare l hl9 hT a0 h0 s.heap.size _ _ _ _ hm) (cwV 0 hts (rc_gV tw_7_26 tw_7_27 tw_7_28 tw_1_1 tw_7_29) rfl rfl rfl (by decide +kernel) ⟨Nat.le_of_ble_eq_true rfl, Nat.le_of_ble_eq_true rfl⟩) (rc_preV hT hW hK hE hS h0 (by decide) rfl (q := (RX8, TX8, 9)) rfl []) rfl rfl hl.1 rfl (lv_room (Nat.le_of_ble_eq_true rfl)) dL_hailShare_3 ⟨Nat.le_of_ble_eq_true rfl, Nat.le_of_ble_eq_true rfl⟩) hS rc_Ain (rc_Afr hS) rc_Ain (fun E ce q9 u t H locs ht _ hp _ _ _ _ _ _ _ => absurd rfl hp) (fun r1 u t H locs ht _ hp hW2 hz hq hS2 => ?_)
    obtain ⟨-, rfl⟩ := hp
    have hW := (show rc_W Y sh rf σ' H by rw [← ht]; exact hW2)
    clear hW2
    have hO := rc_Ok ho hO hq
    have hS := rc_S2 (o := q1) hS2
    clear hS2
    refine lv_f2d hx hb dL_hailShare_6 (hnn rfl) ?_
    refine rc_dast hx hb hK2 hO hW ho hS dL_hailShare_7 (fun H locs hO hW hS => ?_)
    refine lv_goto (tgt := 14) hx hb dL_hailShare_8 (by decide) ?_
    refine lv_iconst (v := 0) hx hb dL_hailShare_14 (by decide) ?_
    exact rc_wret (T := Nat → UInt64) (wo := rc_do dL q1) (post := fun f' => (0 : Nat) = 0 → f' 0 = FP.f2d r1) hx hb hr hlocks hW hO hS (Nat.le_of_ble_eq_true rfl) (Nat.le_of_ble_eq_true rfl) rfl (fun _ => by simp [vf_upd]) dL_hailShare_15
  · subst hk
    subst hc
    refine vx_callf (vx_runV (As := []) (rest := [.int 0, .ref q1]) ⟨hx, hb, hml, hown, hts⟩ (k_X8_hailShare l hl9 hT a0 h0 s.heap.size _ _ _ _ hm) (cwV 0 hts (rc_gV tw_7_26 tw_7_27 tw_7_28 tw_1_1 tw_7_29) rfl rfl rfl (by decide +kernel) ⟨Nat.le_of_ble_eq_true rfl, Nat.le_of_ble_eq_true rfl⟩) (rc_preV hT hW hK hE hS h0 (by decide) rfl (q := (RX8, TX8, 9)) rfl []) rfl rfl hl.1 rfl (lv_room (Nat.le_of_ble_eq_true rfl)) dL_hailShare_3 ⟨Nat.le_of_ble_eq_true rfl, Nat.le_of_ble_eq_true rfl⟩) hS rc_Ain (rc_Afr hS) rc_Ain (fun E ce q9 u t H locs ht _ hp hB hz hq hS2 hce hcv hcl => ?_) (fun r1 u t H locs ht _ hp _ _ _ _ => absurd hp.1 (by decide))
    obtain ⟨hE1, hW2⟩ := hB
    have hW := (show rc_W Y sh rf σ' H by rw [← ht]; exact hW2)
    clear hW2
    have hO := rc_Ok ho hO hq
    have hS := rc_S2 (o := q1) hS2
    clear hS2
    have hE2 : E = "java/lang/ArithmeticException" := hE1
    subst hE2
    refine vx_catch (name := "java/lang/ArithmeticException") hown [] ⟨0, 8, 11, 118⟩ [] htab (fun z hz => nomatch hz) (by decide) (by decide) (hts _ tw_7_0) (va_Nw.use rfl (rc_E_nw hE _ nw_7_12)) hce hcv hcl ?_
    show W p l e _ s m _ below meth c H locs _ _ _ (F0 m 11 ls [.ref q9])
    refine lv_astore_n (lv' := [(2, .ref q9), (0, .ref a0), (1, .ref q1)]) hx hb dL_hailShare_11 rfl hl (by decide) rfl (fun ls hl => ?_)
    refine lv_iconst (v := 1) hx hb dL_hailShare_12 (by decide) ?_
    exact rc_wret (T := Nat → UInt64) (wo := rc_do dL q1) (post := fun f' => (6 : Nat) = 0 → f' 0 = FP.f2d r) hx hb hr hlocks hW hO hS (Nat.le_of_ble_eq_true rfl) (Nat.le_of_ble_eq_true rfl) rfl (fun h => nomatch h) dL_hailShare_13
set_option maxHeartbeats 4000000 in
set_option maxRecDepth 100000 in
theorem k_L_account (l : Launch) (hl9 : l.stackTraces = false) {Y : rc_Y} {sh : Nat → Nat} {rf : rc_F} (hT : rc_T Y sh rf) (a0 : Nat) (u1 : Int32) (q2 : Nat) (h0 : sh a0 = 9) (ho : sh q2 = 0) (dL : ClassId) (f : Nat → Int64) (sz : Nat) (σ σ' : rc_S) (k : Nat) (r : Int32) (cd : Int32) (hcd : (k = 0 ∧ cd = 0) ∨ (k = 3 ∧ cd = 1)) (hm : f_X8_account rf a0 u1 σ = some (k, r, σ')) : Met l yL_account (Cond.codeWith yL_account cL_account 4 (some .int) [(0, 9, 12, 47)] :: rc_big) ({ frames := 7, cells := 1, slots := 6, locals := 102 } : Room) (rc_PL Y sh rf σ sz (rc_lo dL q2 f) [(dL, .long)] [.ref a0, .int u1, .ref q2]) (va_Qi (fun (r' : Int32) (f' : Nat → Int64) => r' = cd ∧ (k = 0 → f' 0 = r.toInt64)) (fun f' t => rc_W Y sh rf σ' t.heap ∧ va_P Y.2.1 vwCl (rc_lo dL q2 f') t.heap) (rc_A2 sh q2 sz)) 1 6 (rc_A2 sh q2 sz) := by
  refine va_MetW (cc := cL_account) (maxL := 4) (ret := (some .int)) (hh := [(0, 9, 12, 47)]) (by decide +kernel) rfl ?_
  intro p e s m args below meth c s₁ B hml hv
  obtain ⟨rfl, hsz, ⟨hW, hK, hE⟩, hO, hK2, hN⟩ := hv
  have hx := B.exec
  have hb := B.bytes
  have hr := B.returns
  have hts0 : ∀ w ∈ (Cond.codeWith yL_account cL_account 4 (some .int) [(0, 9, 12, 47)] :: rc_big), w.before _ s = true := atoms_spec (ws := Cond.codeWith yL_account cL_account 4 (some .int) [(0, 9, 12, 47)] :: rc_big) B.pre
  have htab := vx_table (x := yL_account) B (hts0 _ List.mem_cons_self)
  have hts : ∀ w ∈ rc_big, w.before _ s = true := fun w h => hts0 w (List.mem_cons_of_mem _ h)
  have hown : s.vm.findClass RL = some m.cls := findClass_of_methodNamed B.named
  have hlocks := B.notSynchronized
  clear B
  subst hsz
  have hS : va_S (rc_A sh s.heap.size) s.heap s.heap [] := va_S.rf
  have hl := lv_entry ([.ref a0, .int u1, .ref q2]) (n := 4) (Nat.le_of_ble_eq_true rfl)
  rw [lg_entry_eq]
  generalize (lg_sl ([.ref a0, .int u1, .ref q2]) ++ List.replicate (4 - (lg_sl ([.ref a0, .int u1, .ref q2])).length) Slot.unset).toArray = ls at hl ⊢
  have hl : lv_has ls 4 [(0, .ref a0), (1, .int u1), (2, .ref q2)] := hl
  refine lv_aload_n hx hb dL_account_0 rfl (lv_at hl 2 rfl) ?_
  refine lv_iconst (v := 0) hx hb dL_account_1 (by decide) ?_
  refine lv_aload_n hx hb dL_account_2 rfl (lv_at hl 0 rfl) ?_
  refine lv_iload_n hx hb dL_account_3 rfl (lv_at hl 1 rfl) ?_
  rcases hcd with ⟨hk, hc⟩ | ⟨hk, hc⟩
  · subst hk
    subst hc
    refine vx_calli (vx_runV (As := [.int u1]) (rest := [.int 0, .ref q2]) ⟨hx, hb, hml, hown, hts⟩ (k_X8_account l hl9 hT a0 u1 h0 s.heap.size _ _ _ _ hm) (cwV 1 hts (rc_gV tw_7_37 tw_7_38 tw_7_39 tw_1_1 tw_7_40) rfl rfl rfl (by decide +kernel) ⟨Nat.le_of_ble_eq_true rfl, Nat.le_of_ble_eq_true rfl⟩) (rc_preV hT hW hK hE hS h0 (by decide) rfl (q := (RX8, TX8, 9)) rfl [.int u1]) rfl rfl hl.1 rfl (lv_room (Nat.le_of_ble_eq_true rfl)) dL_account_4 ⟨Nat.le_of_ble_eq_true rfl, Nat.le_of_ble_eq_true rfl⟩) hS rc_Ain (rc_Afr hS) rc_Ain (fun E ce q9 u t H locs ht _ hp _ _ _ _ _ _ _ => absurd rfl hp) (fun r1 u t H locs ht _ hp hW2 hz hq hS2 => ?_)
    obtain ⟨-, rfl⟩ := hp
    have hW := (show rc_W Y sh rf σ' H by rw [← ht]; exact hW2)
    clear hW2
    have hO := rc_Ok ho hO hq
    have hS := rc_S2 (o := q2) hS2
    clear hS2
    refine lv_i2l hx hb dL_account_7 rfl ?_
    refine rc_last hx hb hK2 hO hW ho hS dL_account_8 (fun H locs hO hW hS => ?_)
    refine lv_goto (tgt := 15) hx hb dL_account_9 (by decide) ?_
    refine lv_iconst (v := 0) hx hb dL_account_15 (by decide) ?_
    exact rc_wret (T := Nat → Int64) (wo := rc_lo dL q2) (post := fun f' => (0 : Nat) = 0 → f' 0 = r1.toInt64) hx hb hr hlocks hW hO hS (Nat.le_of_ble_eq_true rfl) (Nat.le_of_ble_eq_true rfl) rfl (fun _ => by simp [vp_updL]) dL_account_16
  · subst hk
    subst hc
    refine vx_calli (vx_runV (As := [.int u1]) (rest := [.int 0, .ref q2]) ⟨hx, hb, hml, hown, hts⟩ (k_X8_account l hl9 hT a0 u1 h0 s.heap.size _ _ _ _ hm) (cwV 1 hts (rc_gV tw_7_37 tw_7_38 tw_7_39 tw_1_1 tw_7_40) rfl rfl rfl (by decide +kernel) ⟨Nat.le_of_ble_eq_true rfl, Nat.le_of_ble_eq_true rfl⟩) (rc_preV hT hW hK hE hS h0 (by decide) rfl (q := (RX8, TX8, 9)) rfl [.int u1]) rfl rfl hl.1 rfl (lv_room (Nat.le_of_ble_eq_true rfl)) dL_account_4 ⟨Nat.le_of_ble_eq_true rfl, Nat.le_of_ble_eq_true rfl⟩) hS rc_Ain (rc_Afr hS) rc_Ain (fun E ce q9 u t H locs ht _ hp hB hz hq hS2 hce hcv hcl => ?_) (fun r1 u t H locs ht _ hp _ _ _ _ => absurd hp.1 (by decide))
    obtain ⟨hE1, hW2⟩ := hB
    have hW := (show rc_W Y sh rf σ' H by rw [← ht]; exact hW2)
    clear hW2
    have hO := rc_Ok ho hO hq
    have hS := rc_S2 (o := q2) hS2
    clear hS2
    have hE2 : E = "java/lang/IllegalArgumentException" := hE1
    subst hE2
    refine vx_catch (name := "java/lang/IllegalArgumentException") hown [] ⟨0, 9, 12, 47⟩ [] htab (fun z hz => nomatch hz) (by decide) (by decide) (hts _ tw_5_90) (va_Nw.use rfl (rc_E_nw hE _ nw_3_135)) hce hcv hcl ?_
    show W p l e _ s m _ below meth c H locs _ _ _ (F0 m 12 ls [.ref q9])
    refine lv_astore_n (lv' := [(3, .ref q9), (0, .ref a0), (1, .int u1), (2, .ref q2)]) hx hb dL_account_12 rfl hl (by decide) rfl (fun ls hl => ?_)
    refine lv_iconst (v := 1) hx hb dL_account_13 (by decide) ?_
    exact rc_wret (T := Nat → Int64) (wo := rc_lo dL q2) (post := fun f' => (3 : Nat) = 0 → f' 0 = r.toInt64) hx hb hr hlocks hW hO hS (Nat.le_of_ble_eq_true rfl) (Nat.le_of_ble_eq_true rfl) rfl (fun h => nomatch h) dL_account_14
set_option maxHeartbeats 4000000 in
set_option maxRecDepth 100000 in
theorem k_L_undo (l : Launch) (hl9 : l.stackTraces = false) {Y : rc_Y} {sh : Nat → Nat} {rf : rc_F} (hT : rc_T Y sh rf) (a0 : Nat) (q1 : Nat) (h0 : sh a0 = 9) (ho : sh q1 = 0) (dL : ClassId) (f : Nat → Int64) (sz : Nat) (σ σ' : rc_S) (k : Nat) (r : Int32) (cd : Int32) (hcd : (k = 0 ∧ cd = 0) ∨ (k = 5 ∧ cd = 1)) (hm : f_X8_undo rf a0 σ = some (k, r, σ')) : Met l yL_undo (Cond.codeWith yL_undo cL_undo 3 (some .int) [(0, 8, 11, 98)] :: rc_big) ({ frames := 7, cells := 1, slots := 6, locals := 101 } : Room) (rc_PL Y sh rf σ sz (rc_lo dL q1 f) [(dL, .long)] [.ref a0, .ref q1]) (va_Qi (fun (r' : Int32) (f' : Nat → Int64) => r' = cd ∧ (k = 0 → f' 0 = r.toInt64)) (fun f' t => rc_W Y sh rf σ' t.heap ∧ va_P Y.2.1 vwCl (rc_lo dL q1 f') t.heap) (rc_A2 sh q1 sz)) 1 6 (rc_A2 sh q1 sz) := by
  refine va_MetW (cc := cL_undo) (maxL := 3) (ret := (some .int)) (hh := [(0, 8, 11, 98)]) (by decide +kernel) rfl ?_
  intro p e s m args below meth c s₁ B hml hv
  obtain ⟨rfl, hsz, ⟨hW, hK, hE⟩, hO, hK2, hN⟩ := hv
  have hx := B.exec
  have hb := B.bytes
  have hr := B.returns
  have hts0 : ∀ w ∈ (Cond.codeWith yL_undo cL_undo 3 (some .int) [(0, 8, 11, 98)] :: rc_big), w.before _ s = true := atoms_spec (ws := Cond.codeWith yL_undo cL_undo 3 (some .int) [(0, 8, 11, 98)] :: rc_big) B.pre
  have htab := vx_table (x := yL_undo) B (hts0 _ List.mem_cons_self)
  have hts : ∀ w ∈ rc_big, w.before _ s = true := fun w h => hts0 w (List.mem_cons_of_mem _ h)
  have hown : s.vm.findClass RL = some m.cls := findClass_of_methodNamed B.named
  have hlocks := B.notSynchronized
  clear B
  subst hsz
  have hS : va_S (rc_A sh s.heap.size) s.heap s.heap [] := va_S.rf
  have hl := lv_entry ([.ref a0, .ref q1]) (n := 3) (Nat.le_of_ble_eq_true rfl)
  rw [lg_entry_eq]
  generalize (lg_sl ([.ref a0, .ref q1]) ++ List.replicate (3 - (lg_sl ([.ref a0, .ref q1])).length) Slot.unset).toArray = ls at hl ⊢
  have hl : lv_has ls 3 [(0, .ref a0), (1, .ref q1)] := hl
  refine lv_aload_n hx hb dL_undo_0 rfl (lv_at hl 1 rfl) ?_
  refine lv_iconst (v := 0) hx hb dL_undo_1 (by decide) ?_
  refine lv_aload_n hx hb dL_undo_2 rfl (lv_at hl 0 rfl) ?_
  rcases hcd with ⟨hk, hc⟩ | ⟨hk, hc⟩
  · subst hk
    subst hc
    refine vx_calli (vx_runV (As := []) (rest := [.int 0, .ref q1]) ⟨hx, hb, hml, hown, hts⟩ (k_X8_undo l hl9 hT a0 h0 s.heap.size _ _ _ _ hm) (cwV 0 hts (rc_gV tw_7_44 tw_7_45 tw_7_46 tw_1_1 tw_7_47) rfl rfl rfl (by decide +kernel) ⟨Nat.le_of_ble_eq_true rfl, Nat.le_of_ble_eq_true rfl⟩) (rc_preV hT hW hK hE hS h0 (by decide) rfl (q := (RX8, TX8, 9)) rfl []) rfl rfl hl.1 rfl (lv_room (Nat.le_of_ble_eq_true rfl)) dL_undo_3 ⟨Nat.le_of_ble_eq_true rfl, Nat.le_of_ble_eq_true rfl⟩) hS rc_Ain (rc_Afr hS) rc_Ain (fun E ce q9 u t H locs ht _ hp _ _ _ _ _ _ _ => absurd rfl hp) (fun r1 u t H locs ht _ hp hW2 hz hq hS2 => ?_)
    obtain ⟨-, rfl⟩ := hp
    have hW := (show rc_W Y sh rf σ' H by rw [← ht]; exact hW2)
    clear hW2
    have hO := rc_Ok ho hO hq
    have hS := rc_S2 (o := q1) hS2
    clear hS2
    refine lv_i2l hx hb dL_undo_6 rfl ?_
    refine rc_last hx hb hK2 hO hW ho hS dL_undo_7 (fun H locs hO hW hS => ?_)
    refine lv_goto (tgt := 14) hx hb dL_undo_8 (by decide) ?_
    refine lv_iconst (v := 0) hx hb dL_undo_14 (by decide) ?_
    exact rc_wret (T := Nat → Int64) (wo := rc_lo dL q1) (post := fun f' => (0 : Nat) = 0 → f' 0 = r1.toInt64) hx hb hr hlocks hW hO hS (Nat.le_of_ble_eq_true rfl) (Nat.le_of_ble_eq_true rfl) rfl (fun _ => by simp [vp_updL]) dL_undo_15
  · subst hk
    subst hc
    refine vx_calli (vx_runV (As := []) (rest := [.int 0, .ref q1]) ⟨hx, hb, hml, hown, hts⟩ (k_X8_undo l hl9 hT a0 h0 s.heap.size _ _ _ _ hm) (cwV 0 hts (rc_gV tw_7_44 tw_7_45 tw_7_46 tw_1_1 tw_7_47) rfl rfl rfl (by decide +kernel) ⟨Nat.le_of_ble_eq_true rfl, Nat.le_of_ble_eq_true rfl⟩) (rc_preV hT hW hK hE hS h0 (by decide) rfl (q := (RX8, TX8, 9)) rfl []) rfl rfl hl.1 rfl (lv_room (Nat.le_of_ble_eq_true rfl)) dL_undo_3 ⟨Nat.le_of_ble_eq_true rfl, Nat.le_of_ble_eq_true rfl⟩) hS rc_Ain (rc_Afr hS) rc_Ain (fun E ce q9 u t H locs ht _ hp hB hz hq hS2 hce hcv hcl => ?_) (fun r1 u t H locs ht _ hp _ _ _ _ => absurd hp.1 (by decide))
    obtain ⟨hE1, hW2⟩ := hB
    have hW := (show rc_W Y sh rf σ' H by rw [← ht]; exact hW2)
    clear hW2
    have hO := rc_Ok ho hO hq
    have hS := rc_S2 (o := q1) hS2
    clear hS2
    have hE2 : E = "java/lang/IllegalStateException" := hE1
    subst hE2
    refine vx_catch (name := "java/lang/IllegalStateException") hown [] ⟨0, 8, 11, 98⟩ [] htab (fun z hz => nomatch hz) (by decide) (by decide) (hts _ tw_6_71) (va_Nw.use rfl (rc_E_nw hE _ nw_6_78)) hce hcv hcl ?_
    show W p l e _ s m _ below meth c H locs _ _ _ (F0 m 11 ls [.ref q9])
    refine lv_astore_n (lv' := [(2, .ref q9), (0, .ref a0), (1, .ref q1)]) hx hb dL_undo_11 rfl hl (by decide) rfl (fun ls hl => ?_)
    refine lv_iconst (v := 1) hx hb dL_undo_12 (by decide) ?_
    exact rc_wret (T := Nat → Int64) (wo := rc_lo dL q1) (post := fun f' => (5 : Nat) = 0 → f' 0 = r.toInt64) hx hb hr hlocks hW hO hS (Nat.le_of_ble_eq_true rfl) (Nat.le_of_ble_eq_true rfl) rfl (fun h => nomatch h) dL_undo_13
set_option maxHeartbeats 4000000 in
set_option maxRecDepth 100000 in
theorem k_L_restore (l : Launch) (hl9 : l.stackTraces = false) {Y : rc_Y} {sh : Nat → Nat} {rf : rc_F} (hT : rc_T Y sh rf) (a0 : Nat) (q1 : Nat) (h0 : sh a0 = 9) (ho : sh q1 = 0) (dL : ClassId) (f : Nat → Int64) (sz : Nat) (σ σ' : rc_S) (k : Nat) (r : Int32) (cd : Int32) (hcd : (k = 0 ∧ cd = 0) ∨ (k = 5 ∧ cd = 1)) (hm : f_X8_restore rf a0 σ = some (k, r, σ')) : Met l yL_restore (Cond.codeWith yL_restore cL_restore 3 (some .int) [(0, 8, 11, 98)] :: rc_big) ({ frames := 7, cells := 1, slots := 6, locals := 101 } : Room) (rc_PL Y sh rf σ sz (rc_lo dL q1 f) [(dL, .long)] [.ref a0, .ref q1]) (va_Qi (fun (r' : Int32) (f' : Nat → Int64) => r' = cd ∧ (k = 0 → f' 0 = r.toInt64)) (fun f' t => rc_W Y sh rf σ' t.heap ∧ va_P Y.2.1 vwCl (rc_lo dL q1 f') t.heap) (rc_A2 sh q1 sz)) 1 6 (rc_A2 sh q1 sz) := by
  refine va_MetW (cc := cL_restore) (maxL := 3) (ret := (some .int)) (hh := [(0, 8, 11, 98)]) (by decide +kernel) rfl ?_
  intro p e s m args below meth c s₁ B hml hv
  obtain ⟨rfl, hsz, ⟨hW, hK, hE⟩, hO, hK2, hN⟩ := hv
  have hx := B.exec
  have hb := B.bytes
  have hr := B.returns
  have hts0 : ∀ w ∈ (Cond.codeWith yL_restore cL_restore 3 (some .int) [(0, 8, 11, 98)] :: rc_big), w.before _ s = true := atoms_spec (ws := Cond.codeWith yL_restore cL_restore 3 (some .int) [(0, 8, 11, 98)] :: rc_big) B.pre
  have htab := vx_table (x := yL_restore) B (hts0 _ List.mem_cons_self)
  have hts : ∀ w ∈ rc_big, w.before _ s = true := fun w h => hts0 w (List.mem_cons_of_mem _ h)
  have hown : s.vm.findClass RL = some m.cls := findClass_of_methodNamed B.named
  have hlocks := B.notSynchronized
  clear B
  subst hsz
  have hS : va_S (rc_A sh s.heap.size) s.heap s.heap [] := va_S.rf
  have hl := lv_entry ([.ref a0, .ref q1]) (n := 3) (Nat.le_of_ble_eq_true rfl)
  rw [lg_entry_eq]
  generalize (lg_sl ([.ref a0, .ref q1]) ++ List.replicate (3 - (lg_sl ([.ref a0, .ref q1])).length) Slot.unset).toArray = ls at hl ⊢
  have hl : lv_has ls 3 [(0, .ref a0), (1, .ref q1)] := hl
  refine lv_aload_n hx hb dL_restore_0 rfl (lv_at hl 1 rfl) ?_
  refine lv_iconst (v := 0) hx hb dL_restore_1 (by decide) ?_
  refine lv_aload_n hx hb dL_restore_2 rfl (lv_at hl 0 rfl) ?_
  rcases hcd with ⟨hk, hc⟩ | ⟨hk, hc⟩
  · subst hk
    subst hc
    refine vx_calli (vx_runV (As := []) (rest := [.int 0, .ref q1]) ⟨hx, hb, hml, hown, hts⟩ (k_X8_restore l hl9 hT a0 h0 s.heap.size _ _ _ _ hm) (cwV 0 hts (rc_gV tw_7_55 tw_7_56 tw_7_57 tw_1_1 tw_7_58) rfl rfl rfl (by decide +kernel) ⟨Nat.le_of_ble_eq_true rfl, Nat.le_of_ble_eq_true rfl⟩) (rc_preV hT hW hK hE hS h0 (by decide) rfl (q := (RX8, TX8, 9)) rfl []) rfl rfl hl.1 rfl (lv_room (Nat.le_of_ble_eq_true rfl)) dL_restore_3 ⟨Nat.le_of_ble_eq_true rfl, Nat.le_of_ble_eq_true rfl⟩) hS rc_Ain (rc_Afr hS) rc_Ain (fun E ce q9 u t H locs ht _ hp _ _ _ _ _ _ _ => absurd rfl hp) (fun r1 u t H locs ht _ hp hW2 hz hq hS2 => ?_)
    obtain ⟨-, rfl⟩ := hp
    have hW := (show rc_W Y sh rf σ' H by rw [← ht]; exact hW2)
    clear hW2
    have hO := rc_Ok ho hO hq
    have hS := rc_S2 (o := q1) hS2
    clear hS2
    refine lv_i2l hx hb dL_restore_6 rfl ?_
    refine rc_last hx hb hK2 hO hW ho hS dL_restore_7 (fun H locs hO hW hS => ?_)
    refine lv_goto (tgt := 14) hx hb dL_restore_8 (by decide) ?_
    refine lv_iconst (v := 0) hx hb dL_restore_14 (by decide) ?_
    exact rc_wret (T := Nat → Int64) (wo := rc_lo dL q1) (post := fun f' => (0 : Nat) = 0 → f' 0 = r1.toInt64) hx hb hr hlocks hW hO hS (Nat.le_of_ble_eq_true rfl) (Nat.le_of_ble_eq_true rfl) rfl (fun _ => by simp [vp_updL]) dL_restore_15
  · subst hk
    subst hc
    refine vx_calli (vx_runV (As := []) (rest := [.int 0, .ref q1]) ⟨hx, hb, hml, hown, hts⟩ (k_X8_restore l hl9 hT a0 h0 s.heap.size _ _ _ _ hm) (cwV 0 hts (rc_gV tw_7_55 tw_7_56 tw_7_57 tw_1_1 tw_7_58) rfl rfl rfl (by decide +kernel) ⟨Nat.le_of_ble_eq_true rfl, Nat.le_of_ble_eq_true rfl⟩) (rc_preV hT hW hK hE hS h0 (by decide) rfl (q := (RX8, TX8, 9)) rfl []) rfl rfl hl.1 rfl (lv_room (Nat.le_of_ble_eq_true rfl)) dL_restore_3 ⟨Nat.le_of_ble_eq_true rfl, Nat.le_of_ble_eq_true rfl⟩) hS rc_Ain (rc_Afr hS) rc_Ain (fun E ce q9 u t H locs ht _ hp hB hz hq hS2 hce hcv hcl => ?_) (fun r1 u t H locs ht _ hp _ _ _ _ => absurd hp.1 (by decide))
    obtain ⟨hE1, hW2⟩ := hB
    have hW := (show rc_W Y sh rf σ' H by rw [← ht]; exact hW2)
    clear hW2
    have hO := rc_Ok ho hO hq
    have hS := rc_S2 (o := q1) hS2
    clear hS2
    have hE2 : E = "java/lang/IllegalStateException" := hE1
    subst hE2
    refine vx_catch (name := "java/lang/IllegalStateException") hown [] ⟨0, 8, 11, 98⟩ [] htab (fun z hz => nomatch hz) (by decide) (by decide) (hts _ tw_6_71) (va_Nw.use rfl (rc_E_nw hE _ nw_6_78)) hce hcv hcl ?_
    show W p l e _ s m _ below meth c H locs _ _ _ (F0 m 11 ls [.ref q9])
    refine lv_astore_n (lv' := [(2, .ref q9), (0, .ref a0), (1, .ref q1)]) hx hb dL_restore_11 rfl hl (by decide) rfl (fun ls hl => ?_)
    refine lv_iconst (v := 1) hx hb dL_restore_12 (by decide) ?_
    exact rc_wret (T := Nat → Int64) (wo := rc_lo dL q1) (post := fun f' => (5 : Nat) = 0 → f' 0 = r.toInt64) hx hb hr hlocks hW hO hS (Nat.le_of_ble_eq_true rfl) (Nat.le_of_ble_eq_true rfl) rfl (fun h => nomatch h) dL_restore_13
