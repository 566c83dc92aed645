def f_L_noteAgain (rf : rc_F) (z : rc_Z) (a0 : Nat) (u1 : Int32) (σ : rc_S) : Option (Int32 × rc_S) := rc_tr (f_X8_noteAgain rf a0 u1 σ) [(2, (-77 : Int32)), (4, (-75 : Int32))]
def f_L_noteIn (rf : rc_F) (z : rc_Z) (a0 : Nat) (u1 : Int32) (u2 : Int32) (σ : rc_S) : Option (Int32 × rc_S) := rc_tr (f_X8_noteIn rf a0 u1 u2 σ) [(2, (-77 : Int32)), (4, (-75 : Int32)), (3, (-78 : Int32))]
def f_L_notices (rf : rc_F) (z : rc_Z) (a0 : Nat) (u1 : Int32) (u2 : Int32) (σ : rc_S) : Option (Int32 × rc_S) := rc_tr (rc_mz (f_X8_notices rf a0 u1 u2 σ)) [(2, (-77 : Int32))]
def f_L_noticing (rf : rc_F) (z : rc_Z) (a0 : Nat) (u1 : Int32) (σ : rc_S) : Option (Int32 × rc_S) := rc_tr (f_X8_noticing rf a0 u1 σ) [(2, (-77 : Int32))]
def f_L_pour (rf : rc_F) (z : rc_Z) (a0 : Nat) (u1 : Int32) (u2 : Int32) (u3 : Int32) (σ : rc_S) : Option (Int32 × rc_S) := rc_tr (f_X8_pour rf a0 u1 u2 u3 σ) [(1, (-76 : Int32))]
def f_L_ranked (rf : rc_F) (z : rc_Z) (a0 : Nat) (u1 : Int32) (u2 : Int32) (σ : rc_S) : Option (Int32 × rc_S) := rc_tr (f_X8_ranked rf a0 u1 u2 σ) [(3, (-78 : Int32)), (4, (-75 : Int32))]
def f_L_restore (rf : rc_F) (z : rc_Z) (a0 : Nat) (σ : rc_S) : Option (Int32 × rc_S) := rc_tr (f_X8_restore rf a0 σ) [(5, (-79 : Int32))]
def f_L_roofOf (rf : rc_F) (z : rc_Z) (a0 : Nat) (u1 : Int32) (u2 : Int32) (σ : rc_S) : Option (Int32 × rc_S) := rc_tr (f_X8_roofOf rf a0 u1 u2 σ) [(2, (-77 : Int32)), (3, (-78 : Int32))]
def f_L_sommelier (rf : rc_F) (z : rc_Z) (a0 : Nat) (u1 : Int32) (u2 : Int32) (σ : rc_S) : Option (Int32 × rc_S) := rc_tr (f_X8_sommelier rf a0 u1 u2 σ) [(1, (-76 : Int32))]
def f_L_storm (rf : rc_F) (z : rc_Z) (a0 : Nat) (u1 : Int32) (u2 : Int32) (σ : rc_S) : Option (Int32 × rc_S) := rc_tr (f_X8_storm rf a0 u1 u2 σ) [(1, (-76 : Int32))]
def f_L_stormOf (rf : rc_F) (z : rc_Z) (a0 : Nat) (u1 : Int32) (u2 : Int32) (σ : rc_S) : Option (Int32 × rc_S) := rc_tr (f_X8_stormOf rf a0 u1 u2 σ) [(4, (-75 : Int32)), (3, (-78 : Int32))]
def f_L_takeAway (rf : rc_F) (z : rc_Z) (a0 : Nat) (u1 : Int32) (σ : rc_S) : Option (Int32 × rc_S) := rc_tr (f_X8_takeAway rf a0 u1 σ) [(1, (-76 : Int32))]
def f_L_undo (rf : rc_F) (z : rc_Z) (a0 : Nat) (σ : rc_S) : Option (Int32 × rc_S) := rc_tr (f_X8_undo rf a0 σ) [(5, (-79 : Int32))]
def f_L_vintage (rf : rc_F) (z : rc_Z) (a0 : Nat) (u1 : Int32) (σ : rc_S) : Option (Int32 × rc_S) := rc_tr (f_X8_vintage rf a0 u1 σ) [(4, (-75 : Int32))]
def f_L_wouldCatch (rf : rc_F) (z : rc_Z) (a0 : Nat) (u1 : Int32) (σ : rc_S) : Option (Int32 × rc_S) := rc_tr (f_X8_wouldCatch rf a0 u1 σ) [(3, (-78 : Int32))]
def f_L_wouldLose (rf : rc_F) (z : rc_Z) (a0 : Nat) (u1 : Int32) (σ : rc_S) : Option (Int32 × rc_S) := rc_tr (f_X8_wouldLose rf a0 u1 σ) [(3, (-78 : Int32))]
set_option maxHeartbeats 4000000 in
set_option maxRecDepth 100000 in
theorem k_L_noteAgain (l : Launch) (hl9 : l.stackTraces = false) {Y : rc_Y} {sh : Nat → Nat} {rf : rc_F} (hT : rc_T Y sh rf) (z : rc_Z) (a0 : Nat) (u1 : Int32) (h0 : sh a0 = 9) (sz : Nat) (σ σ' : rc_S) (r : Int32) (hm : f_L_noteAgain rf z a0 u1 σ = some (r, σ')) : Met l yL_noteAgain (Cond.codeWith yL_noteAgain cL_noteAgain 3 (some .int) [(0, 5, 6, 52), (0, 5, 10, 62)] :: rc_big) ({ frames := 9, cells := 2, slots := 12, locals := 146 } : Room) (rc_PL Y sh rf σ sz z [.ref a0, .int u1]) (va_Qi (fun (r' : Int32) (_ : Unit) => r' = r) (fun _ t => rc_W Y sh rf σ' t.heap) (rc_A sh sz)) 2 12 (rc_A sh sz) := by
  refine va_MetW (cc := cL_noteAgain) (maxL := 3) (ret := (some .int)) (hh := [(0, 5, 6, 52), (0, 5, 10, 62)]) (by decide +kernel) rfl ?_
  intro p e s m args below meth c s₁ B hml hv
  obtain ⟨rfl, hsz, ⟨hW, hK, hE⟩, hN, hXz⟩ := hv
  have hx := B.exec
  have hb := B.bytes
  have hr := B.returns
  have hts0 : ∀ w ∈ (Cond.codeWith yL_noteAgain cL_noteAgain 3 (some .int) [(0, 5, 6, 52), (0, 5, 10, 62)] :: rc_big), w.before _ s = true := atoms_spec (ws := Cond.codeWith yL_noteAgain cL_noteAgain 3 (some .int) [(0, 5, 6, 52), (0, 5, 10, 62)] :: rc_big) B.pre
  have htab := vx_table (x := yL_noteAgain) B (hts0 _ List.mem_cons_self)
  have hts : ∀ w ∈ rc_big, w.before _ s = true := fun w h => hts0 w (List.mem_cons_of_mem _ h)
  have hown : s.vm.findClass RL = some m.cls := findClass_of_methodNamed B.named
  have hlocks := B.notSynchronized
  clear B
  subst hsz
  have hS : va_S (rc_A sh s.heap.size) s.heap s.heap [] := va_S.rf
  have hl := lv_entry ([.ref a0, .int u1]) (n := 3) (Nat.le_of_ble_eq_true rfl)
  rw [lg_entry_eq]
  generalize (lg_sl ([.ref a0, .int u1]) ++ List.replicate (3 - (lg_sl ([.ref a0, .int u1])).length) Slot.unset).toArray = ls at hl ⊢
  have hl : lv_has ls 3 [(0, .ref a0), (1, .int u1)] := hl
  refine lv_aload_n hx hb dL_noteAgain_0 rfl (lv_at hl 0 rfl) ?_
  refine lv_iload_n hx hb dL_noteAgain_1 rfl (lv_at hl 1 rfl) ?_
  unfold f_L_noteAgain at hm
  obtain ⟨k, r0, hm1, hkr⟩ := rc_tr_inv hm
  rcases hkr with ⟨hk, hrr⟩ | hkr
  · subst hk
    subst hrr
    refine vx_calli (vx_runV (As := [.int u1]) (rest := []) ⟨hx, hb, hml, hown, hts⟩ (k_X8_noteAgain l hl9 hT a0 u1 h0 s.heap.size _ _ _ _ hm1) (cwV 1 hts (rc_gV tw_6_150 tw_6_151 tw_6_152 tw_1_1 tw_6_153) rfl rfl rfl (by decide +kernel) ⟨Nat.le_of_ble_eq_true rfl, Nat.le_of_ble_eq_true rfl⟩) (rc_preV hT hW hK hE hS h0 (by decide) rfl (q := (RX8, TX8, 9)) rfl [.int u1]) rfl rfl hl.1 rfl (lv_room (Nat.le_of_ble_eq_true rfl)) dL_noteAgain_2 ⟨Nat.le_of_ble_eq_true rfl, Nat.le_of_ble_eq_true rfl⟩) hS rc_Ain (rc_Afr hS) rc_Ain (fun E ce q9 u t H locs ht _ hp _ _ _ _ _ _ _ => absurd rfl hp) (fun r1 u t H locs ht _ hp hW2 hz hq hS => ?_)
    obtain ⟨-, rfl⟩ := hp
    have hW := (show rc_W Y sh rf σ' H by rw [← ht]; exact hW2)
    clear hW2
    exact rc_eiret hx hb hr hlocks hW hS (Nat.le_of_ble_eq_true rfl) (Nat.le_of_ble_eq_true rfl) rfl dL_noteAgain_5
  · rcases rc_lk_1 hkr with ⟨hk, hrr⟩ | hkr
    · subst hk
      subst hrr
      refine vx_calli (vx_runV (As := [.int u1]) (rest := []) ⟨hx, hb, hml, hown, hts⟩ (k_X8_noteAgain l hl9 hT a0 u1 h0 s.heap.size _ _ _ _ hm1) (cwV 1 hts (rc_gV tw_6_150 tw_6_151 tw_6_152 tw_1_1 tw_6_153) rfl rfl rfl (by decide +kernel) ⟨Nat.le_of_ble_eq_true rfl, Nat.le_of_ble_eq_true rfl⟩) (rc_preV hT hW hK hE hS h0 (by decide) rfl (q := (RX8, TX8, 9)) rfl [.int u1]) rfl rfl hl.1 rfl (lv_room (Nat.le_of_ble_eq_true rfl)) dL_noteAgain_2 ⟨Nat.le_of_ble_eq_true rfl, Nat.le_of_ble_eq_true rfl⟩) hS rc_Ain (rc_Afr hS) rc_Ain (fun E ce q9 u t H locs ht _ hp hB hz hq hS hce hcv hcl => ?_) (fun r1 u t H locs ht _ hp _ _ _ _ => absurd hp.1 (by decide))
      obtain ⟨hE1, hW2⟩ := hB
      have hW := (show rc_W Y sh rf σ' H by rw [← ht]; exact hW2)
      clear hW2
      have hE2 : E = "java/lang/IndexOutOfBoundsException" := hE1
      subst hE2
      refine vx_catch (name := "java/lang/IndexOutOfBoundsException") hown [] ⟨0, 5, 6, 52⟩ [⟨0, 5, 10, 62⟩] htab (fun z hz => nomatch hz) (by decide) (by decide) (hts _ tw_2_120) (va_Nw.use rfl (rc_E_nw hE _ nw_2_219)) hce hcv hcl ?_
      show W p l e _ s m _ below meth c H locs _ _ _ (F0 m 6 ls [.ref q9])
      refine lv_astore_n (lv' := [(2, .ref q9), (0, .ref a0), (1, .int u1)]) hx hb dL_noteAgain_6 rfl hl (by decide) rfl (fun ls hl => ?_)
      refine lv_bipush (v := (-77)) hx hb dL_noteAgain_7 (by decide) ?_
      exact rc_eiret hx hb hr hlocks hW hS (Nat.le_of_ble_eq_true rfl) (Nat.le_of_ble_eq_true rfl) rfl dL_noteAgain_9
    · rcases rc_lk_1 hkr with ⟨hk, hrr⟩ | hkr
      · subst hk
        subst hrr
        refine vx_calli (vx_runV (As := [.int u1]) (rest := []) ⟨hx, hb, hml, hown, hts⟩ (k_X8_noteAgain l hl9 hT a0 u1 h0 s.heap.size _ _ _ _ hm1) (cwV 1 hts (rc_gV tw_6_150 tw_6_151 tw_6_152 tw_1_1 tw_6_153) rfl rfl rfl (by decide +kernel) ⟨Nat.le_of_ble_eq_true rfl, Nat.le_of_ble_eq_true rfl⟩) (rc_preV hT hW hK hE hS h0 (by decide) rfl (q := (RX8, TX8, 9)) rfl [.int u1]) rfl rfl hl.1 rfl (lv_room (Nat.le_of_ble_eq_true rfl)) dL_noteAgain_2 ⟨Nat.le_of_ble_eq_true rfl, Nat.le_of_ble_eq_true rfl⟩) hS rc_Ain (rc_Afr hS) rc_Ain (fun E ce q9 u t H locs ht _ hp hB hz hq hS hce hcv hcl => ?_) (fun r1 u t H locs ht _ hp _ _ _ _ => absurd hp.1 (by decide))
        obtain ⟨hE1, hW2⟩ := hB
        have hW := (show rc_W Y sh rf σ' H by rw [← ht]; exact hW2)
        clear hW2
        have hE2 : E = "java/util/NoSuchElementException" := hE1
        subst hE2
        refine vx_catch (name := "java/util/NoSuchElementException") hown [⟨0, 5, 6, 52⟩] ⟨0, 5, 10, 62⟩ [] htab (List.forall_mem_cons.mpr ⟨Or.inr ⟨by decide, "java/lang/IndexOutOfBoundsException", hts _ tw_2_120, hN.2.1⟩, fun _ h => nomatch h⟩) (by decide) (by decide) (hts _ tw_2_200) (va_Nw.use rfl (rc_E_nw hE _ nw_3_4)) hce hcv hcl ?_
        show W p l e _ s m _ below meth c H locs _ _ _ (F0 m 10 ls [.ref q9])
        refine lv_astore_n (lv' := [(2, .ref q9), (0, .ref a0), (1, .int u1)]) hx hb dL_noteAgain_10 rfl hl (by decide) rfl (fun ls hl => ?_)
        refine lv_bipush (v := (-75)) hx hb dL_noteAgain_11 (by decide) ?_
        exact rc_eiret hx hb hr hlocks hW hS (Nat.le_of_ble_eq_true rfl) (Nat.le_of_ble_eq_true rfl) rfl dL_noteAgain_13
      · exact (rc_lk_0 hkr).elim
set_option maxHeartbeats 4000000 in
set_option maxRecDepth 100000 in
theorem k_L_noteIn (l : Launch) (hl9 : l.stackTraces = false) {Y : rc_Y} {sh : Nat → Nat} {rf : rc_F} (hT : rc_T Y sh rf) (z : rc_Z) (a0 : Nat) (u1 : Int32) (u2 : Int32) (h0 : sh a0 = 9) (sz : Nat) (σ σ' : rc_S) (r : Int32) (hm : f_L_noteIn rf z a0 u1 u2 σ = some (r, σ')) : Met l yL_noteIn (Cond.codeWith yL_noteIn cL_noteIn 4 (some .int) [(0, 6, 7, 52), (0, 6, 11, 62), (0, 6, 15, 54)] :: rc_big) ({ frames := 9, cells := 3, slots := 18, locals := 147 } : Room) (rc_PL Y sh rf σ sz z [.ref a0, .int u1, .int u2]) (va_Qi (fun (r' : Int32) (_ : Unit) => r' = r) (fun _ t => rc_W Y sh rf σ' t.heap) (rc_A sh sz)) 3 18 (rc_A sh sz) := by
  refine va_MetW (cc := cL_noteIn) (maxL := 4) (ret := (some .int)) (hh := [(0, 6, 7, 52), (0, 6, 11, 62), (0, 6, 15, 54)]) (by decide +kernel) rfl ?_
  intro p e s m args below meth c s₁ B hml hv
  obtain ⟨rfl, hsz, ⟨hW, hK, hE⟩, hN, hXz⟩ := hv
  have hx := B.exec
  have hb := B.bytes
  have hr := B.returns
  have hts0 : ∀ w ∈ (Cond.codeWith yL_noteIn cL_noteIn 4 (some .int) [(0, 6, 7, 52), (0, 6, 11, 62), (0, 6, 15, 54)] :: rc_big), w.before _ s = true := atoms_spec (ws := Cond.codeWith yL_noteIn cL_noteIn 4 (some .int) [(0, 6, 7, 52), (0, 6, 11, 62), (0, 6, 15, 54)] :: rc_big) B.pre
  have htab := vx_table (x := yL_noteIn) B (hts0 _ List.mem_cons_self)
  have hts : ∀ w ∈ rc_big, w.before _ s = true := fun w h => hts0 w (List.mem_cons_of_mem _ h)
  have hown : s.vm.findClass RL = some m.cls := findClass_of_methodNamed B.named
  have hlocks := B.notSynchronized
  clear B
  subst hsz
  have hS : va_S (rc_A sh s.heap.size) s.heap s.heap [] := va_S.rf
  have hl := lv_entry ([.ref a0, .int u1, .int u2]) (n := 4) (Nat.le_of_ble_eq_true rfl)
  rw [lg_entry_eq]
  generalize (lg_sl ([.ref a0, .int u1, .int u2]) ++ List.replicate (4 - (lg_sl ([.ref a0, .int u1, .int u2])).length) Slot.unset).toArray = ls at hl ⊢
  have hl : lv_has ls 4 [(0, .ref a0), (1, .int u1), (2, .int u2)] := hl
  refine lv_aload_n hx hb dL_noteIn_0 rfl (lv_at hl 0 rfl) ?_
  refine lv_iload_n hx hb dL_noteIn_1 rfl (lv_at hl 1 rfl) ?_
  refine lv_iload_n hx hb dL_noteIn_2 rfl (lv_at hl 2 rfl) ?_
  unfold f_L_noteIn at hm
  obtain ⟨k, r0, hm1, hkr⟩ := rc_tr_inv hm
  rcases hkr with ⟨hk, hrr⟩ | hkr
  · subst hk
    subst hrr
    refine vx_calli (vx_runV (As := [.int u1, .int u2]) (rest := []) ⟨hx, hb, hml, hown, hts⟩ (k_X8_noteIn l hl9 hT a0 u1 u2 h0 s.heap.size _ _ _ _ hm1) (cwV 2 hts (rc_gV tw_6_186 tw_6_187 tw_6_188 tw_1_1 tw_6_189) rfl rfl rfl (by decide +kernel) ⟨Nat.le_of_ble_eq_true rfl, Nat.le_of_ble_eq_true rfl⟩) (rc_preV hT hW hK hE hS h0 (by decide) rfl (q := (RX8, TX8, 9)) rfl [.int u1, .int u2]) rfl rfl hl.1 rfl (lv_room (Nat.le_of_ble_eq_true rfl)) dL_noteIn_3 ⟨Nat.le_of_ble_eq_true rfl, Nat.le_of_ble_eq_true rfl⟩) hS rc_Ain (rc_Afr hS) rc_Ain (fun E ce q9 u t H locs ht _ hp _ _ _ _ _ _ _ => absurd rfl hp) (fun r1 u t H locs ht _ hp hW2 hz hq hS => ?_)
    obtain ⟨-, rfl⟩ := hp
    have hW := (show rc_W Y sh rf σ' H by rw [← ht]; exact hW2)
    clear hW2
    exact rc_eiret hx hb hr hlocks hW hS (Nat.le_of_ble_eq_true rfl) (Nat.le_of_ble_eq_true rfl) rfl dL_noteIn_6
  · rcases rc_lk_1 hkr with ⟨hk, hrr⟩ | hkr
    · subst hk
      subst hrr
      refine vx_calli (vx_runV (As := [.int u1, .int u2]) (rest := []) ⟨hx, hb, hml, hown, hts⟩ (k_X8_noteIn l hl9 hT a0 u1 u2 h0 s.heap.size _ _ _ _ hm1) (cwV 2 hts (rc_gV tw_6_186 tw_6_187 tw_6_188 tw_1_1 tw_6_189) rfl rfl rfl (by decide +kernel) ⟨Nat.le_of_ble_eq_true rfl, Nat.le_of_ble_eq_true rfl⟩) (rc_preV hT hW hK hE hS h0 (by decide) rfl (q := (RX8, TX8, 9)) rfl [.int u1, .int u2]) rfl rfl hl.1 rfl (lv_room (Nat.le_of_ble_eq_true rfl)) dL_noteIn_3 ⟨Nat.le_of_ble_eq_true rfl, Nat.le_of_ble_eq_true rfl⟩) hS rc_Ain (rc_Afr hS) rc_Ain (fun E ce q9 u t H locs ht _ hp hB hz hq hS hce hcv hcl => ?_) (fun r1 u t H locs ht _ hp _ _ _ _ => absurd hp.1 (by decide))
      obtain ⟨hE1, hW2⟩ := hB
      have hW := (show rc_W Y sh rf σ' H by rw [← ht]; exact hW2)
      clear hW2
      have hE2 : E = "java/lang/IndexOutOfBoundsException" := hE1
      subst hE2
      refine vx_catch (name := "java/lang/IndexOutOfBoundsException") hown [] ⟨0, 6, 7, 52⟩ [⟨0, 6, 11, 62⟩, ⟨0, 6, 15, 54⟩] htab (fun z hz => nomatch hz) (by decide) (by decide) (hts _ tw_2_120) (va_Nw.use rfl (rc_E_nw hE _ nw_2_219)) hce hcv hcl ?_
      show W p l e _ s m _ below meth c H locs _ _ _ (F0 m 7 ls [.ref q9])
      refine lv_astore_n (lv' := [(3, .ref q9), (0, .ref a0), (1, .int u1), (2, .int u2)]) hx hb dL_noteIn_7 rfl hl (by decide) rfl (fun ls hl => ?_)
      refine lv_bipush (v := (-77)) hx hb dL_noteIn_8 (by decide) ?_
      exact rc_eiret hx hb hr hlocks hW hS (Nat.le_of_ble_eq_true rfl) (Nat.le_of_ble_eq_true rfl) rfl dL_noteIn_10
    · rcases rc_lk_1 hkr with ⟨hk, hrr⟩ | hkr
      · subst hk
        subst hrr
        refine vx_calli (vx_runV (As := [.int u1, .int u2]) (rest := []) ⟨hx, hb, hml, hown, hts⟩ (k_X8_noteIn l hl9 hT a0 u1 u2 h0 s.heap.size _ _ _ _ hm1) (cwV 2 hts (rc_gV tw_6_186 tw_6_187 tw_6_188 tw_1_1 tw_6_189) rfl rfl rfl (by decide +kernel) ⟨Nat.le_of_ble_eq_true rfl, Nat.le_of_ble_eq_true rfl⟩) (rc_preV hT hW hK hE hS h0 (by decide) rfl (q := (RX8, TX8, 9)) rfl [.int u1, .int u2]) rfl rfl hl.1 rfl (lv_room (Nat.le_of_ble_eq_true rfl)) dL_noteIn_3 ⟨Nat.le_of_ble_eq_true rfl, Nat.le_of_ble_eq_true rfl⟩) hS rc_Ain (rc_Afr hS) rc_Ain (fun E ce q9 u t H locs ht _ hp hB hz hq hS hce hcv hcl => ?_) (fun r1 u t H locs ht _ hp _ _ _ _ => absurd hp.1 (by decide))
        obtain ⟨hE1, hW2⟩ := hB
        have hW := (show rc_W Y sh rf σ' H by rw [← ht]; exact hW2)
        clear hW2
        have hE2 : E = "java/util/NoSuchElementException" := hE1
        subst hE2
        refine vx_catch (name := "java/util/NoSuchElementException") hown [⟨0, 6, 7, 52⟩] ⟨0, 6, 11, 62⟩ [⟨0, 6, 15, 54⟩] htab (List.forall_mem_cons.mpr ⟨Or.inr ⟨by decide, "java/lang/IndexOutOfBoundsException", hts _ tw_2_120, hN.2.1⟩, fun _ h => nomatch h⟩) (by decide) (by decide) (hts _ tw_2_200) (va_Nw.use rfl (rc_E_nw hE _ nw_3_4)) hce hcv hcl ?_
        show W p l e _ s m _ below meth c H locs _ _ _ (F0 m 11 ls [.ref q9])
        refine lv_astore_n (lv' := [(3, .ref q9), (0, .ref a0), (1, .int u1), (2, .int u2)]) hx hb dL_noteIn_11 rfl hl (by decide) rfl (fun ls hl => ?_)
        refine lv_bipush (v := (-75)) hx hb dL_noteIn_12 (by decide) ?_
        exact rc_eiret hx hb hr hlocks hW hS (Nat.le_of_ble_eq_true rfl) (Nat.le_of_ble_eq_true rfl) rfl dL_noteIn_14
      · rcases rc_lk_1 hkr with ⟨hk, hrr⟩ | hkr
        · subst hk
          subst hrr
          refine vx_calli (vx_runV (As := [.int u1, .int u2]) (rest := []) ⟨hx, hb, hml, hown, hts⟩ (k_X8_noteIn l hl9 hT a0 u1 u2 h0 s.heap.size _ _ _ _ hm1) (cwV 2 hts (rc_gV tw_6_186 tw_6_187 tw_6_188 tw_1_1 tw_6_189) rfl rfl rfl (by decide +kernel) ⟨Nat.le_of_ble_eq_true rfl, Nat.le_of_ble_eq_true rfl⟩) (rc_preV hT hW hK hE hS h0 (by decide) rfl (q := (RX8, TX8, 9)) rfl [.int u1, .int u2]) rfl rfl hl.1 rfl (lv_room (Nat.le_of_ble_eq_true rfl)) dL_noteIn_3 ⟨Nat.le_of_ble_eq_true rfl, Nat.le_of_ble_eq_true rfl⟩) hS rc_Ain (rc_Afr hS) rc_Ain (fun E ce q9 u t H locs ht _ hp hB hz hq hS hce hcv hcl => ?_) (fun r1 u t H locs ht _ hp _ _ _ _ => absurd hp.1 (by decide))
          obtain ⟨hE1, hW2⟩ := hB
          have hW := (show rc_W Y sh rf σ' H by rw [← ht]; exact hW2)
          clear hW2
          have hE2 : E = "java/lang/IllegalArgumentException" := hE1
          subst hE2
          refine vx_catch (name := "java/lang/IllegalArgumentException") hown [⟨0, 6, 7, 52⟩, ⟨0, 6, 11, 62⟩] ⟨0, 6, 15, 54⟩ [] htab (List.forall_mem_cons.mpr ⟨Or.inr ⟨by decide, "java/lang/IndexOutOfBoundsException", hts _ tw_2_120, hN.1⟩, List.forall_mem_cons.mpr ⟨Or.inr ⟨by decide, "java/util/NoSuchElementException", hts _ tw_2_200, hN.2.2.2.1⟩, fun _ h => nomatch h⟩⟩) (by decide) (by decide) (hts _ tw_3_71) (va_Nw.use rfl (rc_E_nw hE _ nw_3_81)) hce hcv hcl ?_
          show W p l e _ s m _ below meth c H locs _ _ _ (F0 m 15 ls [.ref q9])
          refine lv_astore_n (lv' := [(3, .ref q9), (0, .ref a0), (1, .int u1), (2, .int u2)]) hx hb dL_noteIn_15 rfl hl (by decide) rfl (fun ls hl => ?_)
          refine lv_bipush (v := (-78)) hx hb dL_noteIn_16 (by decide) ?_
          exact rc_eiret hx hb hr hlocks hW hS (Nat.le_of_ble_eq_true rfl) (Nat.le_of_ble_eq_true rfl) rfl dL_noteIn_18
        · exact (rc_lk_0 hkr).elim
set_option maxHeartbeats 4000000 in
set_option maxRecDepth 100000 in
theorem k_L_notices (l : Launch) (hl9 : l.stackTraces = false) {Y : rc_Y} {sh : Nat → Nat} {rf : rc_F} (hT : rc_T Y sh rf) (z : rc_Z) (a0 : Nat) (u1 : Int32) (u2 : Int32) (h0 : sh a0 = 9) (sz : Nat) (σ σ' : rc_S) (r : Int32) (hm : f_L_notices rf z a0 u1 u2 σ = some (r, σ')) : Met l yL_notices (Cond.codeWith yL_notices cL_notices 4 (some .int) [(0, 14, 15, 52)] :: rc_big) ({ frames := 8, cells := 1, slots := 6, locals := 124 } : Room) (rc_PL Y sh rf σ sz z [.ref a0, .int u1, .int u2]) (va_Qi (fun (r' : Int32) (_ : Unit) => r' = r) (fun _ t => rc_W Y sh rf σ' t.heap) (rc_A sh sz)) 1 6 (rc_A sh sz) := by
  refine va_MetW (cc := cL_notices) (maxL := 4) (ret := (some .int)) (hh := [(0, 14, 15, 52)]) (by decide +kernel) rfl ?_
  intro p e s m args below meth c s₁ B hml hv
  obtain ⟨rfl, hsz, ⟨hW, hK, hE⟩, hN, hXz⟩ := hv
  have hx := B.exec
  have hb := B.bytes
  have hr := B.returns
  have hts0 : ∀ w ∈ (Cond.codeWith yL_notices cL_notices 4 (some .int) [(0, 14, 15, 52)] :: rc_big), w.before _ s = true := atoms_spec (ws := Cond.codeWith yL_notices cL_notices 4 (some .int) [(0, 14, 15, 52)] :: rc_big) B.pre
  have htab := vx_table (x := yL_notices) B (hts0 _ List.mem_cons_self)
  have hts : ∀ w ∈ rc_big, w.before _ s = true := fun w h => hts0 w (List.mem_cons_of_mem _ h)
  have hown : s.vm.findClass RL = some m.cls := findClass_of_methodNamed B.named
  have hlocks := B.notSynchronized
  clear B
  subst hsz
  have hS : va_S (rc_A sh s.heap.size) s.heap s.heap [] := va_S.rf
  have hl := lv_entry ([.ref a0, .int u1, .int u2]) (n := 4) (Nat.le_of_ble_eq_true rfl)
  rw [lg_entry_eq]
  generalize (lg_sl ([.ref a0, .int u1, .int u2]) ++ List.replicate (4 - (lg_sl ([.ref a0, .int u1, .int u2])).length) Slot.unset).toArray = ls at hl ⊢
  have hl : lv_has ls 4 [(0, .ref a0), (1, .int u1), (2, .int u2)] := hl
  refine lv_aload_n hx hb dL_notices_0 rfl (lv_at hl 0 rfl) ?_
  refine lv_iload_n hx hb dL_notices_1 rfl (lv_at hl 1 rfl) ?_
  refine lv_iload_n hx hb dL_notices_2 rfl (lv_at hl 2 rfl) ?_
  unfold f_L_notices at hm
  obtain ⟨k, r0, hm1, hkr⟩ := rc_tr_inv hm
  obtain ⟨r9, hm2, hr9⟩ := rc_mz_inv hm1
  rcases hkr with ⟨hk, hrr⟩ | hkr
  · subst hk
    subst hrr
    refine vx_calli (vx_runV (As := [.int u1, .int u2]) (rest := []) ⟨hx, hb, hml, hown, hts⟩ (k_X8_notices l hl9 hT a0 u1 u2 h0 s.heap.size _ _ _ _ hm2) (cwV 2 hts (rc_gV tw_6_194 tw_6_195 tw_6_196 tw_1_1 tw_6_197) rfl rfl rfl (by decide +kernel) ⟨Nat.le_of_ble_eq_true rfl, Nat.le_of_ble_eq_true rfl⟩) (rc_preV hT hW hK hE hS h0 (by decide) rfl (q := (RX8, TX8, 9)) rfl [.int u1, .int u2]) rfl rfl hl.1 rfl (lv_room (Nat.le_of_ble_eq_true rfl)) dL_notices_3 ⟨Nat.le_of_ble_eq_true rfl, Nat.le_of_ble_eq_true rfl⟩) hS rc_Ain (rc_Afr hS) rc_Ain (fun E ce q9 u t H locs ht _ hp _ _ _ _ _ _ _ => absurd rfl hp) (fun r1 u t H locs ht _ hp hW2 hz hq hS => ?_)
    obtain ⟨-, rfl⟩ := hp
    have hW := (show rc_W Y sh rf σ' H by rw [← ht]; exact hW2)
    clear hW2
    refine lv_if_eq (tgt := 13) hx hb dL_notices_6 (by decide) (fun c9 => ?_) (fun c9 => ?_)
    · rw [if_pos c9] at hr9
      subst hr9
      refine lv_iconst (v := 0) hx hb dL_notices_13 (by decide) ?_
      exact rc_eiret hx hb hr hlocks hW hS (Nat.le_of_ble_eq_true rfl) (Nat.le_of_ble_eq_true rfl) rfl dL_notices_14
    · rw [if_neg c9] at hr9
      subst hr9
      refine lv_iconst (v := 1) hx hb dL_notices_9 (by decide) ?_
      refine lv_goto (tgt := 14) hx hb dL_notices_10 (by decide) ?_
      exact rc_eiret hx hb hr hlocks hW hS (Nat.le_of_ble_eq_true rfl) (Nat.le_of_ble_eq_true rfl) rfl dL_notices_14
  · rcases rc_lk_1 hkr with ⟨hk, hrr⟩ | hkr
    · subst hk
      subst hrr
      refine vx_calli (vx_runV (As := [.int u1, .int u2]) (rest := []) ⟨hx, hb, hml, hown, hts⟩ (k_X8_notices l hl9 hT a0 u1 u2 h0 s.heap.size _ _ _ _ hm2) (cwV 2 hts (rc_gV tw_6_194 tw_6_195 tw_6_196 tw_1_1 tw_6_197) rfl rfl rfl (by decide +kernel) ⟨Nat.le_of_ble_eq_true rfl, Nat.le_of_ble_eq_true rfl⟩) (rc_preV hT hW hK hE hS h0 (by decide) rfl (q := (RX8, TX8, 9)) rfl [.int u1, .int u2]) rfl rfl hl.1 rfl (lv_room (Nat.le_of_ble_eq_true rfl)) dL_notices_3 ⟨Nat.le_of_ble_eq_true rfl, Nat.le_of_ble_eq_true rfl⟩) hS rc_Ain (rc_Afr hS) rc_Ain (fun E ce q9 u t H locs ht _ hp hB hz hq hS hce hcv hcl => ?_) (fun r1 u t H locs ht _ hp _ _ _ _ => absurd hp.1 (by decide))
      obtain ⟨hE1, hW2⟩ := hB
      have hW := (show rc_W Y sh rf σ' H by rw [← ht]; exact hW2)
      clear hW2
      have hE2 : E = "java/lang/IndexOutOfBoundsException" := hE1
      subst hE2
      refine vx_catch (name := "java/lang/IndexOutOfBoundsException") hown [] ⟨0, 14, 15, 52⟩ [] htab (fun z hz => nomatch hz) (by decide) (by decide) (hts _ tw_2_120) (va_Nw.use rfl (rc_E_nw hE _ nw_2_219)) hce hcv hcl ?_
      show W p l e _ s m _ below meth c H locs _ _ _ (F0 m 15 ls [.ref q9])
      refine lv_astore_n (lv' := [(3, .ref q9), (0, .ref a0), (1, .int u1), (2, .int u2)]) hx hb dL_notices_15 rfl hl (by decide) rfl (fun ls hl => ?_)
      refine lv_bipush (v := (-77)) hx hb dL_notices_16 (by decide) ?_
      exact rc_eiret hx hb hr hlocks hW hS (Nat.le_of_ble_eq_true rfl) (Nat.le_of_ble_eq_true rfl) rfl dL_notices_18
    · exact (rc_lk_0 hkr).elim
set_option maxHeartbeats 4000000 in
set_option maxRecDepth 100000 in
theorem k_L_noticing (l : Launch) (hl9 : l.stackTraces = false) {Y : rc_Y} {sh : Nat → Nat} {rf : rc_F} (hT : rc_T Y sh rf) (z : rc_Z) (a0 : Nat) (u1 : Int32) (h0 : sh a0 = 9) (sz : Nat) (σ σ' : rc_S) (r : Int32) (hm : f_L_noticing rf z a0 u1 σ = some (r, σ')) : Met l yL_noticing (Cond.codeWith yL_noticing cL_noticing 3 (some .int) [(0, 5, 6, 52)] :: rc_big) ({ frames := 8, cells := 1, slots := 6, locals := 123 } : Room) (rc_PL Y sh rf σ sz z [.ref a0, .int u1]) (va_Qi (fun (r' : Int32) (_ : Unit) => r' = r) (fun _ t => rc_W Y sh rf σ' t.heap) (rc_A sh sz)) 1 6 (rc_A sh sz) := by
  refine va_MetW (cc := cL_noticing) (maxL := 3) (ret := (some .int)) (hh := [(0, 5, 6, 52)]) (by decide +kernel) rfl ?_
  intro p e s m args below meth c s₁ B hml hv
  obtain ⟨rfl, hsz, ⟨hW, hK, hE⟩, hN, hXz⟩ := hv
  have hx := B.exec
  have hb := B.bytes
  have hr := B.returns
  have hts0 : ∀ w ∈ (Cond.codeWith yL_noticing cL_noticing 3 (some .int) [(0, 5, 6, 52)] :: rc_big), w.before _ s = true := atoms_spec (ws := Cond.codeWith yL_noticing cL_noticing 3 (some .int) [(0, 5, 6, 52)] :: rc_big) B.pre
  have htab := vx_table (x := yL_noticing) B (hts0 _ List.mem_cons_self)
  have hts : ∀ w ∈ rc_big, w.before _ s = true := fun w h => hts0 w (List.mem_cons_of_mem _ h)
  have hown : s.vm.findClass RL = some m.cls := findClass_of_methodNamed B.named
  have hlocks := B.notSynchronized
  clear B
  subst hsz
  have hS : va_S (rc_A sh s.heap.size) s.heap s.heap [] := va_S.rf
  have hl := lv_entry ([.ref a0, .int u1]) (n := 3) (Nat.le_of_ble_eq_true rfl)
  rw [lg_entry_eq]
  generalize (lg_sl ([.ref a0, .int u1]) ++ List.replicate (3 - (lg_sl ([.ref a0, .int u1])).length) Slot.unset).toArray = ls at hl ⊢
  have hl : lv_has ls 3 [(0, .ref a0), (1, .int u1)] := hl
  refine lv_aload_n hx hb dL_noticing_0 rfl (lv_at hl 0 rfl) ?_
  refine lv_iload_n hx hb dL_noticing_1 rfl (lv_at hl 1 rfl) ?_
  unfold f_L_noticing at hm
  obtain ⟨k, r0, hm1, hkr⟩ := rc_tr_inv hm
  rcases hkr with ⟨hk, hrr⟩ | hkr
  · subst hk
    subst hrr
    refine vx_calli (vx_runV (As := [.int u1]) (rest := []) ⟨hx, hb, hml, hown, hts⟩ (k_X8_noticing l hl9 hT a0 u1 h0 s.heap.size _ _ _ _ hm1) (cwV 1 hts (rc_gV tw_3_48 tw_3_49 tw_3_50 tw_1_1 tw_3_51) rfl rfl rfl (by decide +kernel) ⟨Nat.le_of_ble_eq_true rfl, Nat.le_of_ble_eq_true rfl⟩) (rc_preV hT hW hK hE hS h0 (by decide) rfl (q := (RX8, TX8, 9)) rfl [.int u1]) rfl rfl hl.1 rfl (lv_room (Nat.le_of_ble_eq_true rfl)) dL_noticing_2 ⟨Nat.le_of_ble_eq_true rfl, Nat.le_of_ble_eq_true rfl⟩) hS rc_Ain (rc_Afr hS) rc_Ain (fun E ce q9 u t H locs ht _ hp _ _ _ _ _ _ _ => absurd rfl hp) (fun r1 u t H locs ht _ hp hW2 hz hq hS => ?_)
    obtain ⟨-, rfl⟩ := hp
    have hW := (show rc_W Y sh rf σ' H by rw [← ht]; exact hW2)
    clear hW2
    exact rc_eiret hx hb hr hlocks hW hS (Nat.le_of_ble_eq_true rfl) (Nat.le_of_ble_eq_true rfl) rfl dL_noticing_5
  · rcases rc_lk_1 hkr with ⟨hk, hrr⟩ | hkr
    · subst hk
      subst hrr
      refine vx_calli (vx_runV (As := [.int u1]) (rest := []) ⟨hx, hb, hml, hown, hts⟩ (k_X8_noticing l hl9 hT a0 u1 h0 s.heap.size _ _ _ _ hm1) (cwV 1 hts (rc_gV tw_3_48 tw_3_49 tw_3_50 tw_1_1 tw_3_51) rfl rfl rfl (by decide +kernel) ⟨Nat.le_of_ble_eq_true rfl, Nat.le_of_ble_eq_true rfl⟩) (rc_preV hT hW hK hE hS h0 (by decide) rfl (q := (RX8, TX8, 9)) rfl [.int u1]) rfl rfl hl.1 rfl (lv_room (Nat.le_of_ble_eq_true rfl)) dL_noticing_2 ⟨Nat.le_of_ble_eq_true rfl, Nat.le_of_ble_eq_true rfl⟩) hS rc_Ain (rc_Afr hS) rc_Ain (fun E ce q9 u t H locs ht _ hp hB hz hq hS hce hcv hcl => ?_) (fun r1 u t H locs ht _ hp _ _ _ _ => absurd hp.1 (by decide))
      obtain ⟨hE1, hW2⟩ := hB
      have hW := (show rc_W Y sh rf σ' H by rw [← ht]; exact hW2)
      clear hW2
      have hE2 : E = "java/lang/IndexOutOfBoundsException" := hE1
      subst hE2
      refine vx_catch (name := "java/lang/IndexOutOfBoundsException") hown [] ⟨0, 5, 6, 52⟩ [] htab (fun z hz => nomatch hz) (by decide) (by decide) (hts _ tw_2_120) (va_Nw.use rfl (rc_E_nw hE _ nw_2_219)) hce hcv hcl ?_
      show W p l e _ s m _ below meth c H locs _ _ _ (F0 m 6 ls [.ref q9])
      refine lv_astore_n (lv' := [(2, .ref q9), (0, .ref a0), (1, .int u1)]) hx hb dL_noticing_6 rfl hl (by decide) rfl (fun ls hl => ?_)
      refine lv_bipush (v := (-77)) hx hb dL_noticing_7 (by decide) ?_
      exact rc_eiret hx hb hr hlocks hW hS (Nat.le_of_ble_eq_true rfl) (Nat.le_of_ble_eq_true rfl) rfl dL_noticing_9
    · exact (rc_lk_0 hkr).elim
set_option maxHeartbeats 4000000 in
set_option maxRecDepth 100000 in
theorem k_L_pour (l : Launch) (hl9 : l.stackTraces = false) {Y : rc_Y} {sh : Nat → Nat} {rf : rc_F} (hT : rc_T Y sh rf) (z : rc_Z) (a0 : Nat) (u1 : Int32) (u2 : Int32) (u3 : Int32) (h0 : sh a0 = 9) (sz : Nat) (σ σ' : rc_S) (r : Int32) (hm : f_L_pour rf z a0 u1 u2 u3 σ = some (r, σ')) : Met l yL_pour (Cond.codeWith yL_pour cL_pour 5 (some .int) [(0, 7, 8, 20)] :: rc_big) ({ frames := 8, cells := 1, slots := 6, locals := 156 } : Room) (rc_PL Y sh rf σ sz z [.ref a0, .int u1, .int u2, .int u3]) (va_Qi (fun (r' : Int32) (_ : Unit) => r' = r) (fun _ t => rc_W Y sh rf σ' t.heap) (rc_A sh sz)) 1 6 (rc_A sh sz) := by
  refine va_MetW (cc := cL_pour) (maxL := 5) (ret := (some .int)) (hh := [(0, 7, 8, 20)]) (by decide +kernel) rfl ?_
  intro p e s m args below meth c s₁ B hml hv
  obtain ⟨rfl, hsz, ⟨hW, hK, hE⟩, hN, hXz⟩ := hv
  have hx := B.exec
  have hb := B.bytes
  have hr := B.returns
  have hts0 : ∀ w ∈ (Cond.codeWith yL_pour cL_pour 5 (some .int) [(0, 7, 8, 20)] :: rc_big), w.before _ s = true := atoms_spec (ws := Cond.codeWith yL_pour cL_pour 5 (some .int) [(0, 7, 8, 20)] :: rc_big) B.pre
  have htab := vx_table (x := yL_pour) B (hts0 _ List.mem_cons_self)
  have hts : ∀ w ∈ rc_big, w.before _ s = true := fun w h => hts0 w (List.mem_cons_of_mem _ h)
  have hown : s.vm.findClass RL = some m.cls := findClass_of_methodNamed B.named
  have hlocks := B.notSynchronized
  clear B
  subst hsz
  have hS : va_S (rc_A sh s.heap.size) s.heap s.heap [] := va_S.rf
  have hl := lv_entry ([.ref a0, .int u1, .int u2, .int u3]) (n := 5) (Nat.le_of_ble_eq_true rfl)
  rw [lg_entry_eq]
  generalize (lg_sl ([.ref a0, .int u1, .int u2, .int u3]) ++ List.replicate (5 - (lg_sl ([.ref a0, .int u1, .int u2, .int u3])).length) Slot.unset).toArray = ls at hl ⊢
  have hl : lv_has ls 5 [(0, .ref a0), (1, .int u1), (2, .int u2), (3, .int u3)] := hl
  refine lv_aload_n hx hb dL_pour_0 rfl (lv_at hl 0 rfl) ?_
  refine lv_iload_n hx hb dL_pour_1 rfl (lv_at hl 1 rfl) ?_
  refine lv_iload_n hx hb dL_pour_2 rfl (lv_at hl 2 rfl) ?_
  refine lv_iload_n hx hb dL_pour_3 rfl (lv_at hl 3 rfl) ?_
  unfold f_L_pour at hm
  obtain ⟨k, r0, hm1, hkr⟩ := rc_tr_inv hm
  rcases hkr with ⟨hk, hrr⟩ | hkr
  · subst hk
    subst hrr
    refine vx_calli (vx_runV (As := [.int u1, .int u2, .int u3]) (rest := []) ⟨hx, hb, hml, hown, hts⟩ (k_X8_pour l hl9 hT a0 u1 u2 u3 h0 s.heap.size _ _ _ _ hm1) (cwV 3 hts (rc_gV tw_4_118 tw_4_119 tw_4_120 tw_1_1 tw_4_121) rfl rfl rfl (by decide +kernel) ⟨Nat.le_of_ble_eq_true rfl, Nat.le_of_ble_eq_true rfl⟩) (rc_preV hT hW hK hE hS h0 (by decide) rfl (q := (RX8, TX8, 9)) rfl [.int u1, .int u2, .int u3]) rfl rfl hl.1 rfl (lv_room (Nat.le_of_ble_eq_true rfl)) dL_pour_4 ⟨Nat.le_of_ble_eq_true rfl, Nat.le_of_ble_eq_true rfl⟩) hS rc_Ain (rc_Afr hS) rc_Ain (fun E ce q9 u t H locs ht _ hp _ _ _ _ _ _ _ => absurd rfl hp) (fun r1 u t H locs ht _ hp hW2 hz hq hS => ?_)
    obtain ⟨-, rfl⟩ := hp
    have hW := (show rc_W Y sh rf σ' H by rw [← ht]; exact hW2)
    clear hW2
    exact rc_eiret hx hb hr hlocks hW hS (Nat.le_of_ble_eq_true rfl) (Nat.le_of_ble_eq_true rfl) rfl dL_pour_7
  · rcases rc_lk_1 hkr with ⟨hk, hrr⟩ | hkr
    · subst hk
      subst hrr
      refine vx_calli (vx_runV (As := [.int u1, .int u2, .int u3]) (rest := []) ⟨hx, hb, hml, hown, hts⟩ (k_X8_pour l hl9 hT a0 u1 u2 u3 h0 s.heap.size _ _ _ _ hm1) (cwV 3 hts (rc_gV tw_4_118 tw_4_119 tw_4_120 tw_1_1 tw_4_121) rfl rfl rfl (by decide +kernel) ⟨Nat.le_of_ble_eq_true rfl, Nat.le_of_ble_eq_true rfl⟩) (rc_preV hT hW hK hE hS h0 (by decide) rfl (q := (RX8, TX8, 9)) rfl [.int u1, .int u2, .int u3]) rfl rfl hl.1 rfl (lv_room (Nat.le_of_ble_eq_true rfl)) dL_pour_4 ⟨Nat.le_of_ble_eq_true rfl, Nat.le_of_ble_eq_true rfl⟩) hS rc_Ain (rc_Afr hS) rc_Ain (fun E ce q9 u t H locs ht _ hp hB hz hq hS hce hcv hcl => ?_) (fun r1 u t H locs ht _ hp _ _ _ _ => absurd hp.1 (by decide))
      obtain ⟨hE1, hW2⟩ := hB
      have hW := (show rc_W Y sh rf σ' H by rw [← ht]; exact hW2)
      clear hW2
      have hE2 : E = "java/lang/UnsupportedOperationException" := hE1
      subst hE2
      refine vx_catch (name := "java/lang/UnsupportedOperationException") hown [] ⟨0, 7, 8, 20⟩ [] htab (fun z hz => nomatch hz) (by decide) (by decide) (hts _ tw_3_135) (va_Nw.use rfl (rc_E_nw hE _ nw_3_198)) hce hcv hcl ?_
      show W p l e _ s m _ below meth c H locs _ _ _ (F0 m 8 ls [.ref q9])
      refine lv_astore (lv' := [(4, .ref q9), (0, .ref a0), (1, .int u1), (2, .int u2), (3, .int u3)]) hx hb dL_pour_8 hl (by decide) rfl (fun ls hl => ?_)
      refine lv_bipush (v := (-76)) hx hb dL_pour_10 (by decide) ?_
      exact rc_eiret hx hb hr hlocks hW hS (Nat.le_of_ble_eq_true rfl) (Nat.le_of_ble_eq_true rfl) rfl dL_pour_12
    · exact (rc_lk_0 hkr).elim
set_option maxHeartbeats 4000000 in
set_option maxRecDepth 100000 in
theorem k_L_ranked (l : Launch) (hl9 : l.stackTraces = false) {Y : rc_Y} {sh : Nat → Nat} {rf : rc_F} (hT : rc_T Y sh rf) (z : rc_Z) (a0 : Nat) (u1 : Int32) (u2 : Int32) (h0 : sh a0 = 9) (sz : Nat) (σ σ' : rc_S) (r : Int32) (hm : f_L_ranked rf z a0 u1 u2 σ = some (r, σ')) : Met l yL_ranked (Cond.codeWith yL_ranked cL_ranked 4 (some .int) [(0, 6, 7, 54), (0, 6, 11, 62)] :: rc_big) ({ frames := 8, cells := 1, slots := 6, locals := 177 } : Room) (rc_PL Y sh rf σ sz z [.ref a0, .int u1, .int u2]) (va_Qi (fun (r' : Int32) (_ : Unit) => r' = r) (fun _ t => rc_W Y sh rf σ' t.heap) (rc_A sh sz)) 1 6 (rc_A sh sz) := by
  refine va_MetW (cc := cL_ranked) (maxL := 4) (ret := (some .int)) (hh := [(0, 6, 7, 54), (0, 6, 11, 62)]) (by decide +kernel) rfl ?_
  intro p e s m args below meth c s₁ B hml hv
  obtain ⟨rfl, hsz, ⟨hW, hK, hE⟩, hN, hXz⟩ := hv
  have hx := B.exec
  have hb := B.bytes
  have hr := B.returns
  have hts0 : ∀ w ∈ (Cond.codeWith yL_ranked cL_ranked 4 (some .int) [(0, 6, 7, 54), (0, 6, 11, 62)] :: rc_big), w.before _ s = true := atoms_spec (ws := Cond.codeWith yL_ranked cL_ranked 4 (some .int) [(0, 6, 7, 54), (0, 6, 11, 62)] :: rc_big) B.pre
  have htab := vx_table (x := yL_ranked) B (hts0 _ List.mem_cons_self)
  have hts : ∀ w ∈ rc_big, w.before _ s = true := fun w h => hts0 w (List.mem_cons_of_mem _ h)
  have hown : s.vm.findClass RL = some m.cls := findClass_of_methodNamed B.named
  have hlocks := B.notSynchronized
  clear B
  subst hsz
  have hS : va_S (rc_A sh s.heap.size) s.heap s.heap [] := va_S.rf
  have hl := lv_entry ([.ref a0, .int u1, .int u2]) (n := 4) (Nat.le_of_ble_eq_true rfl)
  rw [lg_entry_eq]
  generalize (lg_sl ([.ref a0, .int u1, .int u2]) ++ List.replicate (4 - (lg_sl ([.ref a0, .int u1, .int u2])).length) Slot.unset).toArray = ls at hl ⊢
  have hl : lv_has ls 4 [(0, .ref a0), (1, .int u1), (2, .int u2)] := hl
  refine lv_aload_n hx hb dL_ranked_0 rfl (lv_at hl 0 rfl) ?_
  refine lv_iload_n hx hb dL_ranked_1 rfl (lv_at hl 1 rfl) ?_
  refine lv_iload_n hx hb dL_ranked_2 rfl (lv_at hl 2 rfl) ?_
  unfold f_L_ranked at hm
  obtain ⟨k, r0, hm1, hkr⟩ := rc_tr_inv hm
  rcases hkr with ⟨hk, hrr⟩ | hkr
  · subst hk
    subst hrr
    refine vx_calli (vx_runV (As := [.int u1, .int u2]) (rest := []) ⟨hx, hb, hml, hown, hts⟩ (k_X8_ranked l hl9 hT a0 u1 u2 h0 s.heap.size _ _ _ _ hm1) (cwV 2 hts (rc_gV tw_7_8 tw_7_9 tw_7_10 tw_1_1 tw_7_11) rfl rfl rfl (by decide +kernel) ⟨Nat.le_of_ble_eq_true rfl, Nat.le_of_ble_eq_true rfl⟩) (rc_preV hT hW hK hE hS h0 (by decide) rfl (q := (RX8, TX8, 9)) rfl [.int u1, .int u2]) rfl rfl hl.1 rfl (lv_room (Nat.le_of_ble_eq_true rfl)) dL_ranked_3 ⟨Nat.le_of_ble_eq_true rfl, Nat.le_of_ble_eq_true rfl⟩) hS rc_Ain (rc_Afr hS) rc_Ain (fun E ce q9 u t H locs ht _ hp _ _ _ _ _ _ _ => absurd rfl hp) (fun r1 u t H locs ht _ hp hW2 hz hq hS => ?_)
    obtain ⟨-, rfl⟩ := hp
    have hW := (show rc_W Y sh rf σ' H by rw [← ht]; exact hW2)
    clear hW2
    exact rc_eiret hx hb hr hlocks hW hS (Nat.le_of_ble_eq_true rfl) (Nat.le_of_ble_eq_true rfl) rfl dL_ranked_6
  · rcases rc_lk_1 hkr with ⟨hk, hrr⟩ | hkr
    · subst hk
      subst hrr
      refine vx_calli (vx_runV (As := [.int u1, .int u2]) (rest := []) ⟨hx, hb, hml, hown, hts⟩ (k_X8_ranked l hl9 hT a0 u1 u2 h0 s.heap.size _ _ _ _ hm1) (cwV 2 hts (rc_gV tw_7_8 tw_7_9 tw_7_10 tw_1_1 tw_7_11) rfl rfl rfl (by decide +kernel) ⟨Nat.le_of_ble_eq_true rfl, Nat.le_of_ble_eq_true rfl⟩) (rc_preV hT hW hK hE hS h0 (by decide) rfl (q := (RX8, TX8, 9)) rfl [.int u1, .int u2]) rfl rfl hl.1 rfl (lv_room (Nat.le_of_ble_eq_true rfl)) dL_ranked_3 ⟨Nat.le_of_ble_eq_true rfl, Nat.le_of_ble_eq_true rfl⟩) hS rc_Ain (rc_Afr hS) rc_Ain (fun E ce q9 u t H locs ht _ hp hB hz hq hS hce hcv hcl => ?_) (fun r1 u t H locs ht _ hp _ _ _ _ => absurd hp.1 (by decide))
      obtain ⟨hE1, hW2⟩ := hB
      have hW := (show rc_W Y sh rf σ' H by rw [← ht]; exact hW2)
      clear hW2
      have hE2 : E = "java/lang/IllegalArgumentException" := hE1
      subst hE2
      refine vx_catch (name := "java/lang/IllegalArgumentException") hown [] ⟨0, 6, 7, 54⟩ [⟨0, 6, 11, 62⟩] htab (fun z hz => nomatch hz) (by decide) (by decide) (hts _ tw_3_71) (va_Nw.use rfl (rc_E_nw hE _ nw_3_81)) hce hcv hcl ?_
      show W p l e _ s m _ below meth c H locs _ _ _ (F0 m 7 ls [.ref q9])
      refine lv_astore_n (lv' := [(3, .ref q9), (0, .ref a0), (1, .int u1), (2, .int u2)]) hx hb dL_ranked_7 rfl hl (by decide) rfl (fun ls hl => ?_)
      refine lv_bipush (v := (-78)) hx hb dL_ranked_8 (by decide) ?_
      exact rc_eiret hx hb hr hlocks hW hS (Nat.le_of_ble_eq_true rfl) (Nat.le_of_ble_eq_true rfl) rfl dL_ranked_10
    · rcases rc_lk_1 hkr with ⟨hk, hrr⟩ | hkr
      · subst hk
        subst hrr
        refine vx_calli (vx_runV (As := [.int u1, .int u2]) (rest := []) ⟨hx, hb, hml, hown, hts⟩ (k_X8_ranked l hl9 hT a0 u1 u2 h0 s.heap.size _ _ _ _ hm1) (cwV 2 hts (rc_gV tw_7_8 tw_7_9 tw_7_10 tw_1_1 tw_7_11) rfl rfl rfl (by decide +kernel) ⟨Nat.le_of_ble_eq_true rfl, Nat.le_of_ble_eq_true rfl⟩) (rc_preV hT hW hK hE hS h0 (by decide) rfl (q := (RX8, TX8, 9)) rfl [.int u1, .int u2]) rfl rfl hl.1 rfl (lv_room (Nat.le_of_ble_eq_true rfl)) dL_ranked_3 ⟨Nat.le_of_ble_eq_true rfl, Nat.le_of_ble_eq_true rfl⟩) hS rc_Ain (rc_Afr hS) rc_Ain (fun E ce q9 u t H locs ht _ hp hB hz hq hS hce hcv hcl => ?_) (fun r1 u t H locs ht _ hp _ _ _ _ => absurd hp.1 (by decide))
        obtain ⟨hE1, hW2⟩ := hB
        have hW := (show rc_W Y sh rf σ' H by rw [← ht]; exact hW2)
        clear hW2
        have hE2 : E = "java/util/NoSuchElementException" := hE1
        subst hE2
        refine vx_catch (name := "java/util/NoSuchElementException") hown [⟨0, 6, 7, 54⟩] ⟨0, 6, 11, 62⟩ [] htab (List.forall_mem_cons.mpr ⟨Or.inr ⟨by decide, "java/lang/IllegalArgumentException", hts _ tw_3_71, hN.2.2.2.2⟩, fun _ h => nomatch h⟩) (by decide) (by decide) (hts _ tw_2_200) (va_Nw.use rfl (rc_E_nw hE _ nw_3_4)) hce hcv hcl ?_
        show W p l e _ s m _ below meth c H locs _ _ _ (F0 m 11 ls [.ref q9])
        refine lv_astore_n (lv' := [(3, .ref q9), (0, .ref a0), (1, .int u1), (2, .int u2)]) hx hb dL_ranked_11 rfl hl (by decide) rfl (fun ls hl => ?_)
        refine lv_bipush (v := (-75)) hx hb dL_ranked_12 (by decide) ?_
        exact rc_eiret hx hb hr hlocks hW hS (Nat.le_of_ble_eq_true rfl) (Nat.le_of_ble_eq_true rfl) rfl dL_ranked_14
      · exact (rc_lk_0 hkr).elim
set_option maxHeartbeats 4000000 in
set_option maxRecDepth 100000 in
theorem k_L_restore (l : Launch) (hl9 : l.stackTraces = false) {Y : rc_Y} {sh : Nat → Nat} {rf : rc_F} (hT : rc_T Y sh rf) (z : rc_Z) (a0 : Nat) (h0 : sh a0 = 9) (sz : Nat) (σ σ' : rc_S) (r : Int32) (hm : f_L_restore rf z a0 σ = some (r, σ')) : Met l yL_restore (Cond.codeWith yL_restore cL_restore 2 (some .int) [(0, 4, 5, 105)] :: rc_big) ({ frames := 7, cells := 1, slots := 6, locals := 101 } : Room) (rc_PL Y sh rf σ sz z [.ref a0]) (va_Qi (fun (r' : Int32) (_ : Unit) => r' = r) (fun _ t => rc_W Y sh rf σ' t.heap) (rc_A sh sz)) 1 6 (rc_A sh sz) := by
  refine va_MetW (cc := cL_restore) (maxL := 2) (ret := (some .int)) (hh := [(0, 4, 5, 105)]) (by decide +kernel) rfl ?_
  intro p e s m args below meth c s₁ B hml hv
  obtain ⟨rfl, hsz, ⟨hW, hK, hE⟩, hN, hXz⟩ := hv
  have hx := B.exec
  have hb := B.bytes
  have hr := B.returns
  have hts0 : ∀ w ∈ (Cond.codeWith yL_restore cL_restore 2 (some .int) [(0, 4, 5, 105)] :: rc_big), w.before _ s = true := atoms_spec (ws := Cond.codeWith yL_restore cL_restore 2 (some .int) [(0, 4, 5, 105)] :: rc_big) B.pre
  have htab := vx_table (x := yL_restore) B (hts0 _ List.mem_cons_self)
  have hts : ∀ w ∈ rc_big, w.before _ s = true := fun w h => hts0 w (List.mem_cons_of_mem _ h)
  have hown : s.vm.findClass RL = some m.cls := findClass_of_methodNamed B.named
  have hlocks := B.notSynchronized
  clear B
  subst hsz
  have hS : va_S (rc_A sh s.heap.size) s.heap s.heap [] := va_S.rf
  have hl := lv_entry ([.ref a0]) (n := 2) (Nat.le_of_ble_eq_true rfl)
  rw [lg_entry_eq]
  generalize (lg_sl ([.ref a0]) ++ List.replicate (2 - (lg_sl ([.ref a0])).length) Slot.unset).toArray = ls at hl ⊢
  have hl : lv_has ls 2 [(0, .ref a0)] := hl
  refine lv_aload_n hx hb dL_restore_0 rfl (lv_at hl 0 rfl) ?_
  unfold f_L_restore at hm
  obtain ⟨k, r0, hm1, hkr⟩ := rc_tr_inv hm
  rcases hkr with ⟨hk, hrr⟩ | hkr
  · subst hk
    subst hrr
    refine vx_calli (vx_runV (As := []) (rest := []) ⟨hx, hb, hml, hown, hts⟩ (k_X8_restore l hl9 hT a0 h0 s.heap.size _ _ _ _ hm1) (cwV 0 hts (rc_gV tw_7_89 tw_7_90 tw_7_91 tw_1_1 tw_7_92) rfl rfl rfl (by decide +kernel) ⟨Nat.le_of_ble_eq_true rfl, Nat.le_of_ble_eq_true rfl⟩) (rc_preV hT hW hK hE hS h0 (by decide) rfl (q := (RX8, TX8, 9)) rfl []) rfl rfl hl.1 rfl (lv_room (Nat.le_of_ble_eq_true rfl)) dL_restore_1 ⟨Nat.le_of_ble_eq_true rfl, Nat.le_of_ble_eq_true rfl⟩) hS rc_Ain (rc_Afr hS) rc_Ain (fun E ce q9 u t H locs ht _ hp _ _ _ _ _ _ _ => absurd rfl hp) (fun r1 u t H locs ht _ hp hW2 hz hq hS => ?_)
    obtain ⟨-, rfl⟩ := hp
    have hW := (show rc_W Y sh rf σ' H by rw [← ht]; exact hW2)
    clear hW2
    exact rc_eiret hx hb hr hlocks hW hS (Nat.le_of_ble_eq_true rfl) (Nat.le_of_ble_eq_true rfl) rfl dL_restore_4
  · rcases rc_lk_1 hkr with ⟨hk, hrr⟩ | hkr
    · subst hk
      subst hrr
      refine vx_calli (vx_runV (As := []) (rest := []) ⟨hx, hb, hml, hown, hts⟩ (k_X8_restore l hl9 hT a0 h0 s.heap.size _ _ _ _ hm1) (cwV 0 hts (rc_gV tw_7_89 tw_7_90 tw_7_91 tw_1_1 tw_7_92) rfl rfl rfl (by decide +kernel) ⟨Nat.le_of_ble_eq_true rfl, Nat.le_of_ble_eq_true rfl⟩) (rc_preV hT hW hK hE hS h0 (by decide) rfl (q := (RX8, TX8, 9)) rfl []) rfl rfl hl.1 rfl (lv_room (Nat.le_of_ble_eq_true rfl)) dL_restore_1 ⟨Nat.le_of_ble_eq_true rfl, Nat.le_of_ble_eq_true rfl⟩) hS rc_Ain (rc_Afr hS) rc_Ain (fun E ce q9 u t H locs ht _ hp hB hz hq hS hce hcv hcl => ?_) (fun r1 u t H locs ht _ hp _ _ _ _ => absurd hp.1 (by decide))
      obtain ⟨hE1, hW2⟩ := hB
      have hW := (show rc_W Y sh rf σ' H by rw [← ht]; exact hW2)
      clear hW2
      have hE2 : E = "java/lang/IllegalStateException" := hE1
      subst hE2
      refine vx_catch (name := "java/lang/IllegalStateException") hown [] ⟨0, 4, 5, 105⟩ [] htab (fun z hz => nomatch hz) (by decide) (by decide) (hts _ tw_5_143) (va_Nw.use rfl (rc_E_nw hE _ nw_5_150)) hce hcv hcl ?_
      show W p l e _ s m _ below meth c H locs _ _ _ (F0 m 5 ls [.ref q9])
      refine lv_astore_n (lv' := [(1, .ref q9), (0, .ref a0)]) hx hb dL_restore_5 rfl hl (by decide) rfl (fun ls hl => ?_)
      refine lv_bipush (v := (-79)) hx hb dL_restore_6 (by decide) ?_
      exact rc_eiret hx hb hr hlocks hW hS (Nat.le_of_ble_eq_true rfl) (Nat.le_of_ble_eq_true rfl) rfl dL_restore_8
    · exact (rc_lk_0 hkr).elim
set_option maxHeartbeats 4000000 in
set_option maxRecDepth 100000 in
theorem k_L_roofOf (l : Launch) (hl9 : l.stackTraces = false) {Y : rc_Y} {sh : Nat → Nat} {rf : rc_F} (hT : rc_T Y sh rf) (z : rc_Z) (a0 : Nat) (u1 : Int32) (u2 : Int32) (h0 : sh a0 = 9) (sz : Nat) (σ σ' : rc_S) (r : Int32) (hm : f_L_roofOf rf z a0 u1 u2 σ = some (r, σ')) : Met l yL_roofOf (Cond.codeWith yL_roofOf cL_roofOf 4 (some .int) [(0, 6, 7, 52), (0, 6, 11, 54)] :: rc_big) ({ frames := 7, cells := 1, slots := 6, locals := 103 } : Room) (rc_PL Y sh rf σ sz z [.ref a0, .int u1, .int u2]) (va_Qi (fun (r' : Int32) (_ : Unit) => r' = r) (fun _ t => rc_W Y sh rf σ' t.heap) (rc_A sh sz)) 1 6 (rc_A sh sz) := by
  refine va_MetW (cc := cL_roofOf) (maxL := 4) (ret := (some .int)) (hh := [(0, 6, 7, 52), (0, 6, 11, 54)]) (by decide +kernel) rfl ?_
  intro p e s m args below meth c s₁ B hml hv
  obtain ⟨rfl, hsz, ⟨hW, hK, hE⟩, hN, hXz⟩ := hv
  have hx := B.exec
  have hb := B.bytes
  have hr := B.returns
  have hts0 : ∀ w ∈ (Cond.codeWith yL_roofOf cL_roofOf 4 (some .int) [(0, 6, 7, 52), (0, 6, 11, 54)] :: rc_big), w.before _ s = true := atoms_spec (ws := Cond.codeWith yL_roofOf cL_roofOf 4 (some .int) [(0, 6, 7, 52), (0, 6, 11, 54)] :: rc_big) B.pre
  have htab := vx_table (x := yL_roofOf) B (hts0 _ List.mem_cons_self)
  have hts : ∀ w ∈ rc_big, w.before _ s = true := fun w h => hts0 w (List.mem_cons_of_mem _ h)
  have hown : s.vm.findClass RL = some m.cls := findClass_of_methodNamed B.named
  have hlocks := B.notSynchronized
  clear B
  subst hsz
  have hS : va_S (rc_A sh s.heap.size) s.heap s.heap [] := va_S.rf
  have hl := lv_entry ([.ref a0, .int u1, .int u2]) (n := 4) (Nat.le_of_ble_eq_true rfl)
  rw [lg_entry_eq]
  generalize (lg_sl ([.ref a0, .int u1, .int u2]) ++ List.replicate (4 - (lg_sl ([.ref a0, .int u1, .int u2])).length) Slot.unset).toArray = ls at hl ⊢
  have hl : lv_has ls 4 [(0, .ref a0), (1, .int u1), (2, .int u2)] := hl
  refine lv_aload_n hx hb dL_roofOf_0 rfl (lv_at hl 0 rfl) ?_
  refine lv_iload_n hx hb dL_roofOf_1 rfl (lv_at hl 1 rfl) ?_
  refine lv_iload_n hx hb dL_roofOf_2 rfl (lv_at hl 2 rfl) ?_
  unfold f_L_roofOf at hm
  obtain ⟨k, r0, hm1, hkr⟩ := rc_tr_inv hm
  rcases hkr with ⟨hk, hrr⟩ | hkr
  · subst hk
    subst hrr
    refine vx_calli (vx_runV (As := [.int u1, .int u2]) (rest := []) ⟨hx, hb, hml, hown, hts⟩ (k_X8_roofOf l hl9 hT a0 u1 u2 h0 s.heap.size _ _ _ _ hm1) (cwV 2 hts (rc_gV tw_6_32 tw_6_33 tw_6_34 tw_1_1 tw_6_35) rfl rfl rfl (by decide +kernel) ⟨Nat.le_of_ble_eq_true rfl, Nat.le_of_ble_eq_true rfl⟩) (rc_preV hT hW hK hE hS h0 (by decide) rfl (q := (RX8, TX8, 9)) rfl [.int u1, .int u2]) rfl rfl hl.1 rfl (lv_room (Nat.le_of_ble_eq_true rfl)) dL_roofOf_3 ⟨Nat.le_of_ble_eq_true rfl, Nat.le_of_ble_eq_true rfl⟩) hS rc_Ain (rc_Afr hS) rc_Ain (fun E ce q9 u t H locs ht _ hp _ _ _ _ _ _ _ => absurd rfl hp) (fun r1 u t H locs ht _ hp hW2 hz hq hS => ?_)
    obtain ⟨-, rfl⟩ := hp
    have hW := (show rc_W Y sh rf σ' H by rw [← ht]; exact hW2)
    clear hW2
    exact rc_eiret hx hb hr hlocks hW hS (Nat.le_of_ble_eq_true rfl) (Nat.le_of_ble_eq_true rfl) rfl dL_roofOf_6
  · rcases rc_lk_1 hkr with ⟨hk, hrr⟩ | hkr
    · subst hk
      subst hrr
      refine vx_calli (vx_runV (As := [.int u1, .int u2]) (rest := []) ⟨hx, hb, hml, hown, hts⟩ (k_X8_roofOf l hl9 hT a0 u1 u2 h0 s.heap.size _ _ _ _ hm1) (cwV 2 hts (rc_gV tw_6_32 tw_6_33 tw_6_34 tw_1_1 tw_6_35) rfl rfl rfl (by decide +kernel) ⟨Nat.le_of_ble_eq_true rfl, Nat.le_of_ble_eq_true rfl⟩) (rc_preV hT hW hK hE hS h0 (by decide) rfl (q := (RX8, TX8, 9)) rfl [.int u1, .int u2]) rfl rfl hl.1 rfl (lv_room (Nat.le_of_ble_eq_true rfl)) dL_roofOf_3 ⟨Nat.le_of_ble_eq_true rfl, Nat.le_of_ble_eq_true rfl⟩) hS rc_Ain (rc_Afr hS) rc_Ain (fun E ce q9 u t H locs ht _ hp hB hz hq hS hce hcv hcl => ?_) (fun r1 u t H locs ht _ hp _ _ _ _ => absurd hp.1 (by decide))
      obtain ⟨hE1, hW2⟩ := hB
      have hW := (show rc_W Y sh rf σ' H by rw [← ht]; exact hW2)
      clear hW2
      have hE2 : E = "java/lang/IndexOutOfBoundsException" := hE1
      subst hE2
      refine vx_catch (name := "java/lang/IndexOutOfBoundsException") hown [] ⟨0, 6, 7, 52⟩ [⟨0, 6, 11, 54⟩] htab (fun z hz => nomatch hz) (by decide) (by decide) (hts _ tw_2_120) (va_Nw.use rfl (rc_E_nw hE _ nw_2_219)) hce hcv hcl ?_
      show W p l e _ s m _ below meth c H locs _ _ _ (F0 m 7 ls [.ref q9])
      refine lv_astore_n (lv' := [(3, .ref q9), (0, .ref a0), (1, .int u1), (2, .int u2)]) hx hb dL_roofOf_7 rfl hl (by decide) rfl (fun ls hl => ?_)
      refine lv_bipush (v := (-77)) hx hb dL_roofOf_8 (by decide) ?_
      exact rc_eiret hx hb hr hlocks hW hS (Nat.le_of_ble_eq_true rfl) (Nat.le_of_ble_eq_true rfl) rfl dL_roofOf_10
    · rcases rc_lk_1 hkr with ⟨hk, hrr⟩ | hkr
      · subst hk
        subst hrr
        refine vx_calli (vx_runV (As := [.int u1, .int u2]) (rest := []) ⟨hx, hb, hml, hown, hts⟩ (k_X8_roofOf l hl9 hT a0 u1 u2 h0 s.heap.size _ _ _ _ hm1) (cwV 2 hts (rc_gV tw_6_32 tw_6_33 tw_6_34 tw_1_1 tw_6_35) rfl rfl rfl (by decide +kernel) ⟨Nat.le_of_ble_eq_true rfl, Nat.le_of_ble_eq_true rfl⟩) (rc_preV hT hW hK hE hS h0 (by decide) rfl (q := (RX8, TX8, 9)) rfl [.int u1, .int u2]) rfl rfl hl.1 rfl (lv_room (Nat.le_of_ble_eq_true rfl)) dL_roofOf_3 ⟨Nat.le_of_ble_eq_true rfl, Nat.le_of_ble_eq_true rfl⟩) hS rc_Ain (rc_Afr hS) rc_Ain (fun E ce q9 u t H locs ht _ hp hB hz hq hS hce hcv hcl => ?_) (fun r1 u t H locs ht _ hp _ _ _ _ => absurd hp.1 (by decide))
        obtain ⟨hE1, hW2⟩ := hB
        have hW := (show rc_W Y sh rf σ' H by rw [← ht]; exact hW2)
        clear hW2
        have hE2 : E = "java/lang/IllegalArgumentException" := hE1
        subst hE2
        refine vx_catch (name := "java/lang/IllegalArgumentException") hown [⟨0, 6, 7, 52⟩] ⟨0, 6, 11, 54⟩ [] htab (List.forall_mem_cons.mpr ⟨Or.inr ⟨by decide, "java/lang/IndexOutOfBoundsException", hts _ tw_2_120, hN.1⟩, fun _ h => nomatch h⟩) (by decide) (by decide) (hts _ tw_3_71) (va_Nw.use rfl (rc_E_nw hE _ nw_3_81)) hce hcv hcl ?_
        show W p l e _ s m _ below meth c H locs _ _ _ (F0 m 11 ls [.ref q9])
        refine lv_astore_n (lv' := [(3, .ref q9), (0, .ref a0), (1, .int u1), (2, .int u2)]) hx hb dL_roofOf_11 rfl hl (by decide) rfl (fun ls hl => ?_)
        refine lv_bipush (v := (-78)) hx hb dL_roofOf_12 (by decide) ?_
        exact rc_eiret hx hb hr hlocks hW hS (Nat.le_of_ble_eq_true rfl) (Nat.le_of_ble_eq_true rfl) rfl dL_roofOf_14
      · exact (rc_lk_0 hkr).elim
set_option maxHeartbeats 4000000 in
set_option maxRecDepth 100000 in
theorem k_L_sommelier (l : Launch) (hl9 : l.stackTraces = false) {Y : rc_Y} {sh : Nat → Nat} {rf : rc_F} (hT : rc_T Y sh rf) (z : rc_Z) (a0 : Nat) (u1 : Int32) (u2 : Int32) (h0 : sh a0 = 9) (sz : Nat) (σ σ' : rc_S) (r : Int32) (hm : f_L_sommelier rf z a0 u1 u2 σ = some (r, σ')) : Met l yL_sommelier (Cond.codeWith yL_sommelier cL_sommelier 4 (some .int) [(0, 6, 7, 20)] :: rc_big) ({ frames := 8, cells := 1, slots := 6, locals := 124 } : Room) (rc_PL Y sh rf σ sz z [.ref a0, .int u1, .int u2]) (va_Qi (fun (r' : Int32) (_ : Unit) => r' = r) (fun _ t => rc_W Y sh rf σ' t.heap) (rc_A sh sz)) 1 6 (rc_A sh sz) := by
  refine va_MetW (cc := cL_sommelier) (maxL := 4) (ret := (some .int)) (hh := [(0, 6, 7, 20)]) (by decide +kernel) rfl ?_
  intro p e s m args below meth c s₁ B hml hv
  obtain ⟨rfl, hsz, ⟨hW, hK, hE⟩, hN, hXz⟩ := hv
  have hx := B.exec
  have hb := B.bytes
  have hr := B.returns
  have hts0 : ∀ w ∈ (Cond.codeWith yL_sommelier cL_sommelier 4 (some .int) [(0, 6, 7, 20)] :: rc_big), w.before _ s = true := atoms_spec (ws := Cond.codeWith yL_sommelier cL_sommelier 4 (some .int) [(0, 6, 7, 20)] :: rc_big) B.pre
  have htab := vx_table (x := yL_sommelier) B (hts0 _ List.mem_cons_self)
  have hts : ∀ w ∈ rc_big, w.before _ s = true := fun w h => hts0 w (List.mem_cons_of_mem _ h)
  have hown : s.vm.findClass RL = some m.cls := findClass_of_methodNamed B.named
  have hlocks := B.notSynchronized
  clear B
  subst hsz
  have hS : va_S (rc_A sh s.heap.size) s.heap s.heap [] := va_S.rf
  have hl := lv_entry ([.ref a0, .int u1, .int u2]) (n := 4) (Nat.le_of_ble_eq_true rfl)
  rw [lg_entry_eq]
  generalize (lg_sl ([.ref a0, .int u1, .int u2]) ++ List.replicate (4 - (lg_sl ([.ref a0, .int u1, .int u2])).length) Slot.unset).toArray = ls at hl ⊢
  have hl : lv_has ls 4 [(0, .ref a0), (1, .int u1), (2, .int u2)] := hl
  refine lv_aload_n hx hb dL_sommelier_0 rfl (lv_at hl 0 rfl) ?_
  refine lv_iload_n hx hb dL_sommelier_1 rfl (lv_at hl 1 rfl) ?_
  refine lv_iload_n hx hb dL_sommelier_2 rfl (lv_at hl 2 rfl) ?_
  unfold f_L_sommelier at hm
  obtain ⟨k, r0, hm1, hkr⟩ := rc_tr_inv hm
  rcases hkr with ⟨hk, hrr⟩ | hkr
  · subst hk
    subst hrr
    refine vx_calli (vx_runV (As := [.int u1, .int u2]) (rest := []) ⟨hx, hb, hml, hown, hts⟩ (k_X8_sommelier l hl9 hT a0 u1 u2 h0 s.heap.size _ _ _ _ hm1) (cwV 2 hts (rc_gV tw_4_17 tw_4_18 tw_4_19 tw_1_1 tw_4_20) rfl rfl rfl (by decide +kernel) ⟨Nat.le_of_ble_eq_true rfl, Nat.le_of_ble_eq_true rfl⟩) (rc_preV hT hW hK hE hS h0 (by decide) rfl (q := (RX8, TX8, 9)) rfl [.int u1, .int u2]) rfl rfl hl.1 rfl (lv_room (Nat.le_of_ble_eq_true rfl)) dL_sommelier_3 ⟨Nat.le_of_ble_eq_true rfl, Nat.le_of_ble_eq_true rfl⟩) hS rc_Ain (rc_Afr hS) rc_Ain (fun E ce q9 u t H locs ht _ hp _ _ _ _ _ _ _ => absurd rfl hp) (fun r1 u t H locs ht _ hp hW2 hz hq hS => ?_)
    obtain ⟨-, rfl⟩ := hp
    have hW := (show rc_W Y sh rf σ' H by rw [← ht]; exact hW2)
    clear hW2
    exact rc_eiret hx hb hr hlocks hW hS (Nat.le_of_ble_eq_true rfl) (Nat.le_of_ble_eq_true rfl) rfl dL_sommelier_6
  · rcases rc_lk_1 hkr with ⟨hk, hrr⟩ | hkr
    · subst hk
      subst hrr
      refine vx_calli (vx_runV (As := [.int u1, .int u2]) (rest := []) ⟨hx, hb, hml, hown, hts⟩ (k_X8_sommelier l hl9 hT a0 u1 u2 h0 s.heap.size _ _ _ _ hm1) (cwV 2 hts (rc_gV tw_4_17 tw_4_18 tw_4_19 tw_1_1 tw_4_20) rfl rfl rfl (by decide +kernel) ⟨Nat.le_of_ble_eq_true rfl, Nat.le_of_ble_eq_true rfl⟩) (rc_preV hT hW hK hE hS h0 (by decide) rfl (q := (RX8, TX8, 9)) rfl [.int u1, .int u2]) rfl rfl hl.1 rfl (lv_room (Nat.le_of_ble_eq_true rfl)) dL_sommelier_3 ⟨Nat.le_of_ble_eq_true rfl, Nat.le_of_ble_eq_true rfl⟩) hS rc_Ain (rc_Afr hS) rc_Ain (fun E ce q9 u t H locs ht _ hp hB hz hq hS hce hcv hcl => ?_) (fun r1 u t H locs ht _ hp _ _ _ _ => absurd hp.1 (by decide))
      obtain ⟨hE1, hW2⟩ := hB
      have hW := (show rc_W Y sh rf σ' H by rw [← ht]; exact hW2)
      clear hW2
      have hE2 : E = "java/lang/UnsupportedOperationException" := hE1
      subst hE2
      refine vx_catch (name := "java/lang/UnsupportedOperationException") hown [] ⟨0, 6, 7, 20⟩ [] htab (fun z hz => nomatch hz) (by decide) (by decide) (hts _ tw_3_135) (va_Nw.use rfl (rc_E_nw hE _ nw_3_198)) hce hcv hcl ?_
      show W p l e _ s m _ below meth c H locs _ _ _ (F0 m 7 ls [.ref q9])
      refine lv_astore_n (lv' := [(3, .ref q9), (0, .ref a0), (1, .int u1), (2, .int u2)]) hx hb dL_sommelier_7 rfl hl (by decide) rfl (fun ls hl => ?_)
      refine lv_bipush (v := (-76)) hx hb dL_sommelier_8 (by decide) ?_
      exact rc_eiret hx hb hr hlocks hW hS (Nat.le_of_ble_eq_true rfl) (Nat.le_of_ble_eq_true rfl) rfl dL_sommelier_10
    · exact (rc_lk_0 hkr).elim
set_option maxHeartbeats 4000000 in
set_option maxRecDepth 100000 in
theorem k_L_storm (l : Launch) (hl9 : l.stackTraces = false) {Y : rc_Y} {sh : Nat → Nat} {rf : rc_F} (hT : rc_T Y sh rf) (z : rc_Z) (a0 : Nat) (u1 : Int32) (u2 : Int32) (h0 : sh a0 = 9) (sz : Nat) (σ σ' : rc_S) (r : Int32) (hm : f_L_storm rf z a0 u1 u2 σ = some (r, σ')) : Met l yL_storm (Cond.codeWith yL_storm cL_storm 4 (some .int) [(0, 6, 7, 20)] :: rc_big) ({ frames := 8, cells := 1, slots := 6, locals := 124 } : Room) (rc_PL Y sh rf σ sz z [.ref a0, .int u1, .int u2]) (va_Qi (fun (r' : Int32) (_ : Unit) => r' = r) (fun _ t => rc_W Y sh rf σ' t.heap) (rc_A sh sz)) 1 6 (rc_A sh sz) := by
  refine va_MetW (cc := cL_storm) (maxL := 4) (ret := (some .int)) (hh := [(0, 6, 7, 20)]) (by decide +kernel) rfl ?_
  intro p e s m args below meth c s₁ B hml hv
  obtain ⟨rfl, hsz, ⟨hW, hK, hE⟩, hN, hXz⟩ := hv
  have hx := B.exec
  have hb := B.bytes
  have hr := B.returns
  have hts0 : ∀ w ∈ (Cond.codeWith yL_storm cL_storm 4 (some .int) [(0, 6, 7, 20)] :: rc_big), w.before _ s = true := atoms_spec (ws := Cond.codeWith yL_storm cL_storm 4 (some .int) [(0, 6, 7, 20)] :: rc_big) B.pre
  have htab := vx_table (x := yL_storm) B (hts0 _ List.mem_cons_self)
  have hts : ∀ w ∈ rc_big, w.before _ s = true := fun w h => hts0 w (List.mem_cons_of_mem _ h)
  have hown : s.vm.findClass RL = some m.cls := findClass_of_methodNamed B.named
  have hlocks := B.notSynchronized
  clear B
  subst hsz
  have hS : va_S (rc_A sh s.heap.size) s.heap s.heap [] := va_S.rf
  have hl := lv_entry ([.ref a0, .int u1, .int u2]) (n := 4) (Nat.le_of_ble_eq_true rfl)
  rw [lg_entry_eq]
  generalize (lg_sl ([.ref a0, .int u1, .int u2]) ++ List.replicate (4 - (lg_sl ([.ref a0, .int u1, .int u2])).length) Slot.unset).toArray = ls at hl ⊢
  have hl : lv_has ls 4 [(0, .ref a0), (1, .int u1), (2, .int u2)] := hl
  refine lv_aload_n hx hb dL_storm_0 rfl (lv_at hl 0 rfl) ?_
  refine lv_iload_n hx hb dL_storm_1 rfl (lv_at hl 1 rfl) ?_
  refine lv_iload_n hx hb dL_storm_2 rfl (lv_at hl 2 rfl) ?_
  unfold f_L_storm at hm
  obtain ⟨k, r0, hm1, hkr⟩ := rc_tr_inv hm
  rcases hkr with ⟨hk, hrr⟩ | hkr
  · subst hk
    subst hrr
    refine vx_calli (vx_runV (As := [.int u1, .int u2]) (rest := []) ⟨hx, hb, hml, hown, hts⟩ (k_X8_storm l hl9 hT a0 u1 u2 h0 s.heap.size _ _ _ _ hm1) (cwV 2 hts (rc_gV tw_3_218 tw_3_219 tw_3_220 tw_1_1 tw_3_221) rfl rfl rfl (by decide +kernel) ⟨Nat.le_of_ble_eq_true rfl, Nat.le_of_ble_eq_true rfl⟩) (rc_preV hT hW hK hE hS h0 (by decide) rfl (q := (RX8, TX8, 9)) rfl [.int u1, .int u2]) rfl rfl hl.1 rfl (lv_room (Nat.le_of_ble_eq_true rfl)) dL_storm_3 ⟨Nat.le_of_ble_eq_true rfl, Nat.le_of_ble_eq_true rfl⟩) hS rc_Ain (rc_Afr hS) rc_Ain (fun E ce q9 u t H locs ht _ hp _ _ _ _ _ _ _ => absurd rfl hp) (fun r1 u t H locs ht _ hp hW2 hz hq hS => ?_)
    obtain ⟨-, rfl⟩ := hp
    have hW := (show rc_W Y sh rf σ' H by rw [← ht]; exact hW2)
    clear hW2
    exact rc_eiret hx hb hr hlocks hW hS (Nat.le_of_ble_eq_true rfl) (Nat.le_of_ble_eq_true rfl) rfl dL_storm_6
  · rcases rc_lk_1 hkr with ⟨hk, hrr⟩ | hkr
    · subst hk
      subst hrr
      refine vx_calli (vx_runV (As := [.int u1, .int u2]) (rest := []) ⟨hx, hb, hml, hown, hts⟩ (k_X8_storm l hl9 hT a0 u1 u2 h0 s.heap.size _ _ _ _ hm1) (cwV 2 hts (rc_gV tw_3_218 tw_3_219 tw_3_220 tw_1_1 tw_3_221) rfl rfl rfl (by decide +kernel) ⟨Nat.le_of_ble_eq_true rfl, Nat.le_of_ble_eq_true rfl⟩) (rc_preV hT hW hK hE hS h0 (by decide) rfl (q := (RX8, TX8, 9)) rfl [.int u1, .int u2]) rfl rfl hl.1 rfl (lv_room (Nat.le_of_ble_eq_true rfl)) dL_storm_3 ⟨Nat.le_of_ble_eq_true rfl, Nat.le_of_ble_eq_true rfl⟩) hS rc_Ain (rc_Afr hS) rc_Ain (fun E ce q9 u t H locs ht _ hp hB hz hq hS hce hcv hcl => ?_) (fun r1 u t H locs ht _ hp _ _ _ _ => absurd hp.1 (by decide))
      obtain ⟨hE1, hW2⟩ := hB
      have hW := (show rc_W Y sh rf σ' H by rw [← ht]; exact hW2)
      clear hW2
      have hE2 : E = "java/lang/UnsupportedOperationException" := hE1
      subst hE2
      refine vx_catch (name := "java/lang/UnsupportedOperationException") hown [] ⟨0, 6, 7, 20⟩ [] htab (fun z hz => nomatch hz) (by decide) (by decide) (hts _ tw_3_135) (va_Nw.use rfl (rc_E_nw hE _ nw_3_198)) hce hcv hcl ?_
      show W p l e _ s m _ below meth c H locs _ _ _ (F0 m 7 ls [.ref q9])
      refine lv_astore_n (lv' := [(3, .ref q9), (0, .ref a0), (1, .int u1), (2, .int u2)]) hx hb dL_storm_7 rfl hl (by decide) rfl (fun ls hl => ?_)
      refine lv_bipush (v := (-76)) hx hb dL_storm_8 (by decide) ?_
      exact rc_eiret hx hb hr hlocks hW hS (Nat.le_of_ble_eq_true rfl) (Nat.le_of_ble_eq_true rfl) rfl dL_storm_10
    · exact (rc_lk_0 hkr).elim
set_option maxHeartbeats 4000000 in
set_option maxRecDepth 100000 in
theorem k_L_stormOf (l : Launch) (hl9 : l.stackTraces = false) {Y : rc_Y} {sh : Nat → Nat} {rf : rc_F} (hT : rc_T Y sh rf) (z : rc_Z) (a0 : Nat) (u1 : Int32) (u2 : Int32) (h0 : sh a0 = 9) (sz : Nat) (σ σ' : rc_S) (r : Int32) (hm : f_L_stormOf rf z a0 u1 u2 σ = some (r, σ')) : Met l yL_stormOf (Cond.codeWith yL_stormOf cL_stormOf 4 (some .int) [(0, 6, 7, 62), (0, 6, 11, 54)] :: rc_big) ({ frames := 7, cells := 1, slots := 6, locals := 104 } : Room) (rc_PL Y sh rf σ sz z [.ref a0, .int u1, .int u2]) (va_Qi (fun (r' : Int32) (_ : Unit) => r' = r) (fun _ t => rc_W Y sh rf σ' t.heap) (rc_A sh sz)) 1 6 (rc_A sh sz) := by
  refine va_MetW (cc := cL_stormOf) (maxL := 4) (ret := (some .int)) (hh := [(0, 6, 7, 62), (0, 6, 11, 54)]) (by decide +kernel) rfl ?_
  intro p e s m args below meth c s₁ B hml hv
  obtain ⟨rfl, hsz, ⟨hW, hK, hE⟩, hN, hXz⟩ := hv
  have hx := B.exec
  have hb := B.bytes
  have hr := B.returns
  have hts0 : ∀ w ∈ (Cond.codeWith yL_stormOf cL_stormOf 4 (some .int) [(0, 6, 7, 62), (0, 6, 11, 54)] :: rc_big), w.before _ s = true := atoms_spec (ws := Cond.codeWith yL_stormOf cL_stormOf 4 (some .int) [(0, 6, 7, 62), (0, 6, 11, 54)] :: rc_big) B.pre
  have htab := vx_table (x := yL_stormOf) B (hts0 _ List.mem_cons_self)
  have hts : ∀ w ∈ rc_big, w.before _ s = true := fun w h => hts0 w (List.mem_cons_of_mem _ h)
  have hown : s.vm.findClass RL = some m.cls := findClass_of_methodNamed B.named
  have hlocks := B.notSynchronized
  clear B
  subst hsz
  have hS : va_S (rc_A sh s.heap.size) s.heap s.heap [] := va_S.rf
  have hl := lv_entry ([.ref a0, .int u1, .int u2]) (n := 4) (Nat.le_of_ble_eq_true rfl)
  rw [lg_entry_eq]
  generalize (lg_sl ([.ref a0, .int u1, .int u2]) ++ List.replicate (4 - (lg_sl ([.ref a0, .int u1, .int u2])).length) Slot.unset).toArray = ls at hl ⊢
  have hl : lv_has ls 4 [(0, .ref a0), (1, .int u1), (2, .int u2)] := hl
  refine lv_aload_n hx hb dL_stormOf_0 rfl (lv_at hl 0 rfl) ?_
  refine lv_iload_n hx hb dL_stormOf_1 rfl (lv_at hl 1 rfl) ?_
  refine lv_iload_n hx hb dL_stormOf_2 rfl (lv_at hl 2 rfl) ?_
  unfold f_L_stormOf at hm
  obtain ⟨k, r0, hm1, hkr⟩ := rc_tr_inv hm
  rcases hkr with ⟨hk, hrr⟩ | hkr
  · subst hk
    subst hrr
    refine vx_calli (vx_runV (As := [.int u1, .int u2]) (rest := []) ⟨hx, hb, hml, hown, hts⟩ (k_X8_stormOf l hl9 hT a0 u1 u2 h0 s.heap.size _ _ _ _ hm1) (cwV 2 hts (rc_gV tw_6_225 tw_6_226 tw_6_227 tw_1_1 tw_6_228) rfl rfl rfl (by decide +kernel) ⟨Nat.le_of_ble_eq_true rfl, Nat.le_of_ble_eq_true rfl⟩) (rc_preV hT hW hK hE hS h0 (by decide) rfl (q := (RX8, TX8, 9)) rfl [.int u1, .int u2]) rfl rfl hl.1 rfl (lv_room (Nat.le_of_ble_eq_true rfl)) dL_stormOf_3 ⟨Nat.le_of_ble_eq_true rfl, Nat.le_of_ble_eq_true rfl⟩) hS rc_Ain (rc_Afr hS) rc_Ain (fun E ce q9 u t H locs ht _ hp _ _ _ _ _ _ _ => absurd rfl hp) (fun r1 u t H locs ht _ hp hW2 hz hq hS => ?_)
    obtain ⟨-, rfl⟩ := hp
    have hW := (show rc_W Y sh rf σ' H by rw [← ht]; exact hW2)
    clear hW2
    exact rc_eiret hx hb hr hlocks hW hS (Nat.le_of_ble_eq_true rfl) (Nat.le_of_ble_eq_true rfl) rfl dL_stormOf_6
  · rcases rc_lk_1 hkr with ⟨hk, hrr⟩ | hkr
    · subst hk
      subst hrr
      refine vx_calli (vx_runV (As := [.int u1, .int u2]) (rest := []) ⟨hx, hb, hml, hown, hts⟩ (k_X8_stormOf l hl9 hT a0 u1 u2 h0 s.heap.size _ _ _ _ hm1) (cwV 2 hts (rc_gV tw_6_225 tw_6_226 tw_6_227 tw_1_1 tw_6_228) rfl rfl rfl (by decide +kernel) ⟨Nat.le_of_ble_eq_true rfl, Nat.le_of_ble_eq_true rfl⟩) (rc_preV hT hW hK hE hS h0 (by decide) rfl (q := (RX8, TX8, 9)) rfl [.int u1, .int u2]) rfl rfl hl.1 rfl (lv_room (Nat.le_of_ble_eq_true rfl)) dL_stormOf_3 ⟨Nat.le_of_ble_eq_true rfl, Nat.le_of_ble_eq_true rfl⟩) hS rc_Ain (rc_Afr hS) rc_Ain (fun E ce q9 u t H locs ht _ hp hB hz hq hS hce hcv hcl => ?_) (fun r1 u t H locs ht _ hp _ _ _ _ => absurd hp.1 (by decide))
      obtain ⟨hE1, hW2⟩ := hB
      have hW := (show rc_W Y sh rf σ' H by rw [← ht]; exact hW2)
      clear hW2
      have hE2 : E = "java/util/NoSuchElementException" := hE1
      subst hE2
      refine vx_catch (name := "java/util/NoSuchElementException") hown [] ⟨0, 6, 7, 62⟩ [⟨0, 6, 11, 54⟩] htab (fun z hz => nomatch hz) (by decide) (by decide) (hts _ tw_2_200) (va_Nw.use rfl (rc_E_nw hE _ nw_3_4)) hce hcv hcl ?_
      show W p l e _ s m _ below meth c H locs _ _ _ (F0 m 7 ls [.ref q9])
      refine lv_astore_n (lv' := [(3, .ref q9), (0, .ref a0), (1, .int u1), (2, .int u2)]) hx hb dL_stormOf_7 rfl hl (by decide) rfl (fun ls hl => ?_)
      refine lv_bipush (v := (-75)) hx hb dL_stormOf_8 (by decide) ?_
      exact rc_eiret hx hb hr hlocks hW hS (Nat.le_of_ble_eq_true rfl) (Nat.le_of_ble_eq_true rfl) rfl dL_stormOf_10
    · rcases rc_lk_1 hkr with ⟨hk, hrr⟩ | hkr
      · subst hk
        subst hrr
        refine vx_calli (vx_runV (As := [.int u1, .int u2]) (rest := []) ⟨hx, hb, hml, hown, hts⟩ (k_X8_stormOf l hl9 hT a0 u1 u2 h0 s.heap.size _ _ _ _ hm1) (cwV 2 hts (rc_gV tw_6_225 tw_6_226 tw_6_227 tw_1_1 tw_6_228) rfl rfl rfl (by decide +kernel) ⟨Nat.le_of_ble_eq_true rfl, Nat.le_of_ble_eq_true rfl⟩) (rc_preV hT hW hK hE hS h0 (by decide) rfl (q := (RX8, TX8, 9)) rfl [.int u1, .int u2]) rfl rfl hl.1 rfl (lv_room (Nat.le_of_ble_eq_true rfl)) dL_stormOf_3 ⟨Nat.le_of_ble_eq_true rfl, Nat.le_of_ble_eq_true rfl⟩) hS rc_Ain (rc_Afr hS) rc_Ain (fun E ce q9 u t H locs ht _ hp hB hz hq hS hce hcv hcl => ?_) (fun r1 u t H locs ht _ hp _ _ _ _ => absurd hp.1 (by decide))
        obtain ⟨hE1, hW2⟩ := hB
        have hW := (show rc_W Y sh rf σ' H by rw [← ht]; exact hW2)
        clear hW2
        have hE2 : E = "java/lang/IllegalArgumentException" := hE1
        subst hE2
        refine vx_catch (name := "java/lang/IllegalArgumentException") hown [⟨0, 6, 7, 62⟩] ⟨0, 6, 11, 54⟩ [] htab (List.forall_mem_cons.mpr ⟨Or.inr ⟨by decide, "java/util/NoSuchElementException", hts _ tw_2_200, hN.2.2.2.1⟩, fun _ h => nomatch h⟩) (by decide) (by decide) (hts _ tw_3_71) (va_Nw.use rfl (rc_E_nw hE _ nw_3_81)) hce hcv hcl ?_
        show W p l e _ s m _ below meth c H locs _ _ _ (F0 m 11 ls [.ref q9])
        refine lv_astore_n (lv' := [(3, .ref q9), (0, .ref a0), (1, .int u1), (2, .int u2)]) hx hb dL_stormOf_11 rfl hl (by decide) rfl (fun ls hl => ?_)
        refine lv_bipush (v := (-78)) hx hb dL_stormOf_12 (by decide) ?_
        exact rc_eiret hx hb hr hlocks hW hS (Nat.le_of_ble_eq_true rfl) (Nat.le_of_ble_eq_true rfl) rfl dL_stormOf_14
      · exact (rc_lk_0 hkr).elim
set_option maxHeartbeats 4000000 in
set_option maxRecDepth 100000 in
theorem k_L_takeAway (l : Launch) (hl9 : l.stackTraces = false) {Y : rc_Y} {sh : Nat → Nat} {rf : rc_F} (hT : rc_T Y sh rf) (z : rc_Z) (a0 : Nat) (u1 : Int32) (h0 : sh a0 = 9) (sz : Nat) (σ σ' : rc_S) (r : Int32) (hm : f_L_takeAway rf z a0 u1 σ = some (r, σ')) : Met l yL_takeAway (Cond.codeWith yL_takeAway cL_takeAway 3 (some .int) [(0, 5, 6, 20)] :: rc_big) ({ frames := 8, cells := 1, slots := 6, locals := 123 } : Room) (rc_PL Y sh rf σ sz z [.ref a0, .int u1]) (va_Qi (fun (r' : Int32) (_ : Unit) => r' = r) (fun _ t => rc_W Y sh rf σ' t.heap) (rc_A sh sz)) 1 6 (rc_A sh sz) := by
  refine va_MetW (cc := cL_takeAway) (maxL := 3) (ret := (some .int)) (hh := [(0, 5, 6, 20)]) (by decide +kernel) rfl ?_
  intro p e s m args below meth c s₁ B hml hv
  obtain ⟨rfl, hsz, ⟨hW, hK, hE⟩, hN, hXz⟩ := hv
  have hx := B.exec
  have hb := B.bytes
  have hr := B.returns
  have hts0 : ∀ w ∈ (Cond.codeWith yL_takeAway cL_takeAway 3 (some .int) [(0, 5, 6, 20)] :: rc_big), w.before _ s = true := atoms_spec (ws := Cond.codeWith yL_takeAway cL_takeAway 3 (some .int) [(0, 5, 6, 20)] :: rc_big) B.pre
  have htab := vx_table (x := yL_takeAway) B (hts0 _ List.mem_cons_self)
  have hts : ∀ w ∈ rc_big, w.before _ s = true := fun w h => hts0 w (List.mem_cons_of_mem _ h)
  have hown : s.vm.findClass RL = some m.cls := findClass_of_methodNamed B.named
  have hlocks := B.notSynchronized
  clear B
  subst hsz
  have hS : va_S (rc_A sh s.heap.size) s.heap s.heap [] := va_S.rf
  have hl := lv_entry ([.ref a0, .int u1]) (n := 3) (Nat.le_of_ble_eq_true rfl)
  rw [lg_entry_eq]
  generalize (lg_sl ([.ref a0, .int u1]) ++ List.replicate (3 - (lg_sl ([.ref a0, .int u1])).length) Slot.unset).toArray = ls at hl ⊢
  have hl : lv_has ls 3 [(0, .ref a0), (1, .int u1)] := hl
  refine lv_aload_n hx hb dL_takeAway_0 rfl (lv_at hl 0 rfl) ?_
  refine lv_iload_n hx hb dL_takeAway_1 rfl (lv_at hl 1 rfl) ?_
  unfold f_L_takeAway at hm
  obtain ⟨k, r0, hm1, hkr⟩ := rc_tr_inv hm
  rcases hkr with ⟨hk, hrr⟩ | hkr
  · subst hk
    subst hrr
    refine vx_calli (vx_runV (As := [.int u1]) (rest := []) ⟨hx, hb, hml, hown, hts⟩ (k_X8_takeAway l hl9 hT a0 u1 h0 s.heap.size _ _ _ _ hm1) (cwV 1 hts (rc_gV tw_4_62 tw_4_63 tw_4_64 tw_1_1 tw_4_65) rfl rfl rfl (by decide +kernel) ⟨Nat.le_of_ble_eq_true rfl, Nat.le_of_ble_eq_true rfl⟩) (rc_preV hT hW hK hE hS h0 (by decide) rfl (q := (RX8, TX8, 9)) rfl [.int u1]) rfl rfl hl.1 rfl (lv_room (Nat.le_of_ble_eq_true rfl)) dL_takeAway_2 ⟨Nat.le_of_ble_eq_true rfl, Nat.le_of_ble_eq_true rfl⟩) hS rc_Ain (rc_Afr hS) rc_Ain (fun E ce q9 u t H locs ht _ hp _ _ _ _ _ _ _ => absurd rfl hp) (fun r1 u t H locs ht _ hp hW2 hz hq hS => ?_)
    obtain ⟨-, rfl⟩ := hp
    have hW := (show rc_W Y sh rf σ' H by rw [← ht]; exact hW2)
    clear hW2
    exact rc_eiret hx hb hr hlocks hW hS (Nat.le_of_ble_eq_true rfl) (Nat.le_of_ble_eq_true rfl) rfl dL_takeAway_5
  · rcases rc_lk_1 hkr with ⟨hk, hrr⟩ | hkr
    · subst hk
      subst hrr
      refine vx_calli (vx_runV (As := [.int u1]) (rest := []) ⟨hx, hb, hml, hown, hts⟩ (k_X8_takeAway l hl9 hT a0 u1 h0 s.heap.size _ _ _ _ hm1) (cwV 1 hts (rc_gV tw_4_62 tw_4_63 tw_4_64 tw_1_1 tw_4_65) rfl rfl rfl (by decide +kernel) ⟨Nat.le_of_ble_eq_true rfl, Nat.le_of_ble_eq_true rfl⟩) (rc_preV hT hW hK hE hS h0 (by decide) rfl (q := (RX8, TX8, 9)) rfl [.int u1]) rfl rfl hl.1 rfl (lv_room (Nat.le_of_ble_eq_true rfl)) dL_takeAway_2 ⟨Nat.le_of_ble_eq_true rfl, Nat.le_of_ble_eq_true rfl⟩) hS rc_Ain (rc_Afr hS) rc_Ain (fun E ce q9 u t H locs ht _ hp hB hz hq hS hce hcv hcl => ?_) (fun r1 u t H locs ht _ hp _ _ _ _ => absurd hp.1 (by decide))
      obtain ⟨hE1, hW2⟩ := hB
      have hW := (show rc_W Y sh rf σ' H by rw [← ht]; exact hW2)
      clear hW2
      have hE2 : E = "java/lang/UnsupportedOperationException" := hE1
      subst hE2
      refine vx_catch (name := "java/lang/UnsupportedOperationException") hown [] ⟨0, 5, 6, 20⟩ [] htab (fun z hz => nomatch hz) (by decide) (by decide) (hts _ tw_3_135) (va_Nw.use rfl (rc_E_nw hE _ nw_3_198)) hce hcv hcl ?_
      show W p l e _ s m _ below meth c H locs _ _ _ (F0 m 6 ls [.ref q9])
      refine lv_astore_n (lv' := [(2, .ref q9), (0, .ref a0), (1, .int u1)]) hx hb dL_takeAway_6 rfl hl (by decide) rfl (fun ls hl => ?_)
      refine lv_bipush (v := (-76)) hx hb dL_takeAway_7 (by decide) ?_
      exact rc_eiret hx hb hr hlocks hW hS (Nat.le_of_ble_eq_true rfl) (Nat.le_of_ble_eq_true rfl) rfl dL_takeAway_9
    · exact (rc_lk_0 hkr).elim
set_option maxHeartbeats 4000000 in
set_option maxRecDepth 100000 in
theorem k_L_undo (l : Launch) (hl9 : l.stackTraces = false) {Y : rc_Y} {sh : Nat → Nat} {rf : rc_F} (hT : rc_T Y sh rf) (z : rc_Z) (a0 : Nat) (h0 : sh a0 = 9) (sz : Nat) (σ σ' : rc_S) (r : Int32) (hm : f_L_undo rf z a0 σ = some (r, σ')) : Met l yL_undo (Cond.codeWith yL_undo cL_undo 2 (some .int) [(0, 4, 5, 105)] :: rc_big) ({ frames := 7, cells := 1, slots := 6, locals := 101 } : Room) (rc_PL Y sh rf σ sz z [.ref a0]) (va_Qi (fun (r' : Int32) (_ : Unit) => r' = r) (fun _ t => rc_W Y sh rf σ' t.heap) (rc_A sh sz)) 1 6 (rc_A sh sz) := by
  refine va_MetW (cc := cL_undo) (maxL := 2) (ret := (some .int)) (hh := [(0, 4, 5, 105)]) (by decide +kernel) rfl ?_
  intro p e s m args below meth c s₁ B hml hv
  obtain ⟨rfl, hsz, ⟨hW, hK, hE⟩, hN, hXz⟩ := hv
  have hx := B.exec
  have hb := B.bytes
  have hr := B.returns
  have hts0 : ∀ w ∈ (Cond.codeWith yL_undo cL_undo 2 (some .int) [(0, 4, 5, 105)] :: rc_big), w.before _ s = true := atoms_spec (ws := Cond.codeWith yL_undo cL_undo 2 (some .int) [(0, 4, 5, 105)] :: rc_big) B.pre
  have htab := vx_table (x := yL_undo) B (hts0 _ List.mem_cons_self)
  have hts : ∀ w ∈ rc_big, w.before _ s = true := fun w h => hts0 w (List.mem_cons_of_mem _ h)
  have hown : s.vm.findClass RL = some m.cls := findClass_of_methodNamed B.named
  have hlocks := B.notSynchronized
  clear B
  subst hsz
  have hS : va_S (rc_A sh s.heap.size) s.heap s.heap [] := va_S.rf
  have hl := lv_entry ([.ref a0]) (n := 2) (Nat.le_of_ble_eq_true rfl)
  rw [lg_entry_eq]
  generalize (lg_sl ([.ref a0]) ++ List.replicate (2 - (lg_sl ([.ref a0])).length) Slot.unset).toArray = ls at hl ⊢
  have hl : lv_has ls 2 [(0, .ref a0)] := hl
  refine lv_aload_n hx hb dL_undo_0 rfl (lv_at hl 0 rfl) ?_
  unfold f_L_undo at hm
  obtain ⟨k, r0, hm1, hkr⟩ := rc_tr_inv hm
  rcases hkr with ⟨hk, hrr⟩ | hkr
  · subst hk
    subst hrr
    refine vx_calli (vx_runV (As := []) (rest := []) ⟨hx, hb, hml, hown, hts⟩ (k_X8_undo l hl9 hT a0 h0 s.heap.size _ _ _ _ hm1) (cwV 0 hts (rc_gV tw_7_78 tw_7_79 tw_7_80 tw_1_1 tw_7_81) rfl rfl rfl (by decide +kernel) ⟨Nat.le_of_ble_eq_true rfl, Nat.le_of_ble_eq_true rfl⟩) (rc_preV hT hW hK hE hS h0 (by decide) rfl (q := (RX8, TX8, 9)) rfl []) rfl rfl hl.1 rfl (lv_room (Nat.le_of_ble_eq_true rfl)) dL_undo_1 ⟨Nat.le_of_ble_eq_true rfl, Nat.le_of_ble_eq_true rfl⟩) hS rc_Ain (rc_Afr hS) rc_Ain (fun E ce q9 u t H locs ht _ hp _ _ _ _ _ _ _ => absurd rfl hp) (fun r1 u t H locs ht _ hp hW2 hz hq hS => ?_)
    obtain ⟨-, rfl⟩ := hp
    have hW := (show rc_W Y sh rf σ' H by rw [← ht]; exact hW2)
    clear hW2
    exact rc_eiret hx hb hr hlocks hW hS (Nat.le_of_ble_eq_true rfl) (Nat.le_of_ble_eq_true rfl) rfl dL_undo_4
  · rcases rc_lk_1 hkr with ⟨hk, hrr⟩ | hkr
    · subst hk
      subst hrr
      refine vx_calli (vx_runV (As := []) (rest := []) ⟨hx, hb, hml, hown, hts⟩ (k_X8_undo l hl9 hT a0 h0 s.heap.size _ _ _ _ hm1) (cwV 0 hts (rc_gV tw_7_78 tw_7_79 tw_7_80 tw_1_1 tw_7_81) rfl rfl rfl (by decide +kernel) ⟨Nat.le_of_ble_eq_true rfl, Nat.le_of_ble_eq_true rfl⟩) (rc_preV hT hW hK hE hS h0 (by decide) rfl (q := (RX8, TX8, 9)) rfl []) rfl rfl hl.1 rfl (lv_room (Nat.le_of_ble_eq_true rfl)) dL_undo_1 ⟨Nat.le_of_ble_eq_true rfl, Nat.le_of_ble_eq_true rfl⟩) hS rc_Ain (rc_Afr hS) rc_Ain (fun E ce q9 u t H locs ht _ hp hB hz hq hS hce hcv hcl => ?_) (fun r1 u t H locs ht _ hp _ _ _ _ => absurd hp.1 (by decide))
      obtain ⟨hE1, hW2⟩ := hB
      have hW := (show rc_W Y sh rf σ' H by rw [← ht]; exact hW2)
      clear hW2
      have hE2 : E = "java/lang/IllegalStateException" := hE1
      subst hE2
      refine vx_catch (name := "java/lang/IllegalStateException") hown [] ⟨0, 4, 5, 105⟩ [] htab (fun z hz => nomatch hz) (by decide) (by decide) (hts _ tw_5_143) (va_Nw.use rfl (rc_E_nw hE _ nw_5_150)) hce hcv hcl ?_
      show W p l e _ s m _ below meth c H locs _ _ _ (F0 m 5 ls [.ref q9])
      refine lv_astore_n (lv' := [(1, .ref q9), (0, .ref a0)]) hx hb dL_undo_5 rfl hl (by decide) rfl (fun ls hl => ?_)
      refine lv_bipush (v := (-79)) hx hb dL_undo_6 (by decide) ?_
      exact rc_eiret hx hb hr hlocks hW hS (Nat.le_of_ble_eq_true rfl) (Nat.le_of_ble_eq_true rfl) rfl dL_undo_8
    · exact (rc_lk_0 hkr).elim
set_option maxHeartbeats 4000000 in
set_option maxRecDepth 100000 in
theorem k_L_vintage (l : Launch) (hl9 : l.stackTraces = false) {Y : rc_Y} {sh : Nat → Nat} {rf : rc_F} (hT : rc_T Y sh rf) (z : rc_Z) (a0 : Nat) (u1 : Int32) (h0 : sh a0 = 9) (sz : Nat) (σ σ' : rc_S) (r : Int32) (hm : f_L_vintage rf z a0 u1 σ = some (r, σ')) : Met l yL_vintage (Cond.codeWith yL_vintage cL_vintage 3 (some .int) [(0, 5, 6, 62)] :: rc_big) ({ frames := 7, cells := 1, slots := 6, locals := 102 } : Room) (rc_PL Y sh rf σ sz z [.ref a0, .int u1]) (va_Qi (fun (r' : Int32) (_ : Unit) => r' = r) (fun _ t => rc_W Y sh rf σ' t.heap) (rc_A sh sz)) 1 6 (rc_A sh sz) := by
  refine va_MetW (cc := cL_vintage) (maxL := 3) (ret := (some .int)) (hh := [(0, 5, 6, 62)]) (by decide +kernel) rfl ?_
  intro p e s m args below meth c s₁ B hml hv
  obtain ⟨rfl, hsz, ⟨hW, hK, hE⟩, hN, hXz⟩ := hv
  have hx := B.exec
  have hb := B.bytes
  have hr := B.returns
  have hts0 : ∀ w ∈ (Cond.codeWith yL_vintage cL_vintage 3 (some .int) [(0, 5, 6, 62)] :: rc_big), w.before _ s = true := atoms_spec (ws := Cond.codeWith yL_vintage cL_vintage 3 (some .int) [(0, 5, 6, 62)] :: rc_big) B.pre
  have htab := vx_table (x := yL_vintage) B (hts0 _ List.mem_cons_self)
  have hts : ∀ w ∈ rc_big, w.before _ s = true := fun w h => hts0 w (List.mem_cons_of_mem _ h)
  have hown : s.vm.findClass RL = some m.cls := findClass_of_methodNamed B.named
  have hlocks := B.notSynchronized
  clear B
  subst hsz
  have hS : va_S (rc_A sh s.heap.size) s.heap s.heap [] := va_S.rf
  have hl := lv_entry ([.ref a0, .int u1]) (n := 3) (Nat.le_of_ble_eq_true rfl)
  rw [lg_entry_eq]
  generalize (lg_sl ([.ref a0, .int u1]) ++ List.replicate (3 - (lg_sl ([.ref a0, .int u1])).length) Slot.unset).toArray = ls at hl ⊢
  have hl : lv_has ls 3 [(0, .ref a0), (1, .int u1)] := hl
  refine lv_aload_n hx hb dL_vintage_0 rfl (lv_at hl 0 rfl) ?_
  refine lv_iload_n hx hb dL_vintage_1 rfl (lv_at hl 1 rfl) ?_
  unfold f_L_vintage at hm
  obtain ⟨k, r0, hm1, hkr⟩ := rc_tr_inv hm
  rcases hkr with ⟨hk, hrr⟩ | hkr
  · subst hk
    subst hrr
    refine vx_calli (vx_runV (As := [.int u1]) (rest := []) ⟨hx, hb, hml, hown, hts⟩ (k_X8_vintage l hl9 hT a0 u1 h0 s.heap.size _ _ _ _ hm1) (cwV 1 hts (rc_gV tw_6_237 tw_6_238 tw_6_239 tw_1_1 tw_7_0) rfl rfl rfl (by decide +kernel) ⟨Nat.le_of_ble_eq_true rfl, Nat.le_of_ble_eq_true rfl⟩) (rc_preV hT hW hK hE hS h0 (by decide) rfl (q := (RX8, TX8, 9)) rfl [.int u1]) rfl rfl hl.1 rfl (lv_room (Nat.le_of_ble_eq_true rfl)) dL_vintage_2 ⟨Nat.le_of_ble_eq_true rfl, Nat.le_of_ble_eq_true rfl⟩) hS rc_Ain (rc_Afr hS) rc_Ain (fun E ce q9 u t H locs ht _ hp _ _ _ _ _ _ _ => absurd rfl hp) (fun r1 u t H locs ht _ hp hW2 hz hq hS => ?_)
    obtain ⟨-, rfl⟩ := hp
    have hW := (show rc_W Y sh rf σ' H by rw [← ht]; exact hW2)
    clear hW2
    exact rc_eiret hx hb hr hlocks hW hS (Nat.le_of_ble_eq_true rfl) (Nat.le_of_ble_eq_true rfl) rfl dL_vintage_5
  · rcases rc_lk_1 hkr with ⟨hk, hrr⟩ | hkr
    · subst hk
      subst hrr
      refine vx_calli (vx_runV (As := [.int u1]) (rest := []) ⟨hx, hb, hml, hown, hts⟩ (k_X8_vintage l hl9 hT a0 u1 h0 s.heap.size _ _ _ _ hm1) (cwV 1 hts (rc_gV tw_6_237 tw_6_238 tw_6_239 tw_1_1 tw_7_0) rfl rfl rfl (by decide +kernel) ⟨Nat.le_of_ble_eq_true rfl, Nat.le_of_ble_eq_true rfl⟩) (rc_preV hT hW hK hE hS h0 (by decide) rfl (q := (RX8, TX8, 9)) rfl [.int u1]) rfl rfl hl.1 rfl (lv_room (Nat.le_of_ble_eq_true rfl)) dL_vintage_2 ⟨Nat.le_of_ble_eq_true rfl, Nat.le_of_ble_eq_true rfl⟩) hS rc_Ain (rc_Afr hS) rc_Ain (fun E ce q9 u t H locs ht _ hp hB hz hq hS hce hcv hcl => ?_) (fun r1 u t H locs ht _ hp _ _ _ _ => absurd hp.1 (by decide))
      obtain ⟨hE1, hW2⟩ := hB
      have hW := (show rc_W Y sh rf σ' H by rw [← ht]; exact hW2)
      clear hW2
      have hE2 : E = "java/util/NoSuchElementException" := hE1
      subst hE2
      refine vx_catch (name := "java/util/NoSuchElementException") hown [] ⟨0, 5, 6, 62⟩ [] htab (fun z hz => nomatch hz) (by decide) (by decide) (hts _ tw_2_200) (va_Nw.use rfl (rc_E_nw hE _ nw_3_4)) hce hcv hcl ?_
      show W p l e _ s m _ below meth c H locs _ _ _ (F0 m 6 ls [.ref q9])
      refine lv_astore_n (lv' := [(2, .ref q9), (0, .ref a0), (1, .int u1)]) hx hb dL_vintage_6 rfl hl (by decide) rfl (fun ls hl => ?_)
      refine lv_bipush (v := (-75)) hx hb dL_vintage_7 (by decide) ?_
      exact rc_eiret hx hb hr hlocks hW hS (Nat.le_of_ble_eq_true rfl) (Nat.le_of_ble_eq_true rfl) rfl dL_vintage_9
    · exact (rc_lk_0 hkr).elim
set_option maxHeartbeats 4000000 in
set_option maxRecDepth 100000 in
theorem k_L_wouldCatch (l : Launch) (hl9 : l.stackTraces = false) {Y : rc_Y} {sh : Nat → Nat} {rf : rc_F} (hT : rc_T Y sh rf) (z : rc_Z) (a0 : Nat) (u1 : Int32) (h0 : sh a0 = 9) (sz : Nat) (σ σ' : rc_S) (r : Int32) (hm : f_L_wouldCatch rf z a0 u1 σ = some (r, σ')) : Met l yL_wouldCatch (Cond.codeWith yL_wouldCatch cL_wouldCatch 3 (some .int) [(0, 5, 6, 54)] :: rc_big) ({ frames := 7, cells := 1, slots := 6, locals := 102 } : Room) (rc_PL Y sh rf σ sz z [.ref a0, .int u1]) (va_Qi (fun (r' : Int32) (_ : Unit) => r' = r) (fun _ t => rc_W Y sh rf σ' t.heap) (rc_A sh sz)) 1 6 (rc_A sh sz) := by
  refine va_MetW (cc := cL_wouldCatch) (maxL := 3) (ret := (some .int)) (hh := [(0, 5, 6, 54)]) (by decide +kernel) rfl ?_
  intro p e s m args below meth c s₁ B hml hv
  obtain ⟨rfl, hsz, ⟨hW, hK, hE⟩, hN, hXz⟩ := hv
  have hx := B.exec
  have hb := B.bytes
  have hr := B.returns
  have hts0 : ∀ w ∈ (Cond.codeWith yL_wouldCatch cL_wouldCatch 3 (some .int) [(0, 5, 6, 54)] :: rc_big), w.before _ s = true := atoms_spec (ws := Cond.codeWith yL_wouldCatch cL_wouldCatch 3 (some .int) [(0, 5, 6, 54)] :: rc_big) B.pre
  have htab := vx_table (x := yL_wouldCatch) B (hts0 _ List.mem_cons_self)
  have hts : ∀ w ∈ rc_big, w.before _ s = true := fun w h => hts0 w (List.mem_cons_of_mem _ h)
  have hown : s.vm.findClass RL = some m.cls := findClass_of_methodNamed B.named
  have hlocks := B.notSynchronized
  clear B
  subst hsz
  have hS : va_S (rc_A sh s.heap.size) s.heap s.heap [] := va_S.rf
  have hl := lv_entry ([.ref a0, .int u1]) (n := 3) (Nat.le_of_ble_eq_true rfl)
  rw [lg_entry_eq]
  generalize (lg_sl ([.ref a0, .int u1]) ++ List.replicate (3 - (lg_sl ([.ref a0, .int u1])).length) Slot.unset).toArray = ls at hl ⊢
  have hl : lv_has ls 3 [(0, .ref a0), (1, .int u1)] := hl
  refine lv_aload_n hx hb dL_wouldCatch_0 rfl (lv_at hl 0 rfl) ?_
  refine lv_iload_n hx hb dL_wouldCatch_1 rfl (lv_at hl 1 rfl) ?_
  unfold f_L_wouldCatch at hm
  obtain ⟨k, r0, hm1, hkr⟩ := rc_tr_inv hm
  rcases hkr with ⟨hk, hrr⟩ | hkr
  · subst hk
    subst hrr
    refine vx_calli (vx_runV (As := [.int u1]) (rest := []) ⟨hx, hb, hml, hown, hts⟩ (k_X8_wouldCatch l hl9 hT a0 u1 h0 s.heap.size _ _ _ _ hm1) (cwV 1 hts (rc_gV tw_3_72 tw_3_73 tw_3_74 tw_1_1 tw_3_75) rfl rfl rfl (by decide +kernel) ⟨Nat.le_of_ble_eq_true rfl, Nat.le_of_ble_eq_true rfl⟩) (rc_preV hT hW hK hE hS h0 (by decide) rfl (q := (RX8, TX8, 9)) rfl [.int u1]) rfl rfl hl.1 rfl (lv_room (Nat.le_of_ble_eq_true rfl)) dL_wouldCatch_2 ⟨Nat.le_of_ble_eq_true rfl, Nat.le_of_ble_eq_true rfl⟩) hS rc_Ain (rc_Afr hS) rc_Ain (fun E ce q9 u t H locs ht _ hp _ _ _ _ _ _ _ => absurd rfl hp) (fun r1 u t H locs ht _ hp hW2 hz hq hS => ?_)
    obtain ⟨-, rfl⟩ := hp
    have hW := (show rc_W Y sh rf σ' H by rw [← ht]; exact hW2)
    clear hW2
    exact rc_eiret hx hb hr hlocks hW hS (Nat.le_of_ble_eq_true rfl) (Nat.le_of_ble_eq_true rfl) rfl dL_wouldCatch_5
  · rcases rc_lk_1 hkr with ⟨hk, hrr⟩ | hkr
    · subst hk
      subst hrr
      refine vx_calli (vx_runV (As := [.int u1]) (rest := []) ⟨hx, hb, hml, hown, hts⟩ (k_X8_wouldCatch l hl9 hT a0 u1 h0 s.heap.size _ _ _ _ hm1) (cwV 1 hts (rc_gV tw_3_72 tw_3_73 tw_3_74 tw_1_1 tw_3_75) rfl rfl rfl (by decide +kernel) ⟨Nat.le_of_ble_eq_true rfl, Nat.le_of_ble_eq_true rfl⟩) (rc_preV hT hW hK hE hS h0 (by decide) rfl (q := (RX8, TX8, 9)) rfl [.int u1]) rfl rfl hl.1 rfl (lv_room (Nat.le_of_ble_eq_true rfl)) dL_wouldCatch_2 ⟨Nat.le_of_ble_eq_true rfl, Nat.le_of_ble_eq_true rfl⟩) hS rc_Ain (rc_Afr hS) rc_Ain (fun E ce q9 u t H locs ht _ hp hB hz hq hS hce hcv hcl => ?_) (fun r1 u t H locs ht _ hp _ _ _ _ => absurd hp.1 (by decide))
      obtain ⟨hE1, hW2⟩ := hB
      have hW := (show rc_W Y sh rf σ' H by rw [← ht]; exact hW2)
      clear hW2
      have hE2 : E = "java/lang/IllegalArgumentException" := hE1
      subst hE2
      refine vx_catch (name := "java/lang/IllegalArgumentException") hown [] ⟨0, 5, 6, 54⟩ [] htab (fun z hz => nomatch hz) (by decide) (by decide) (hts _ tw_3_71) (va_Nw.use rfl (rc_E_nw hE _ nw_3_81)) hce hcv hcl ?_
      show W p l e _ s m _ below meth c H locs _ _ _ (F0 m 6 ls [.ref q9])
      refine lv_astore_n (lv' := [(2, .ref q9), (0, .ref a0), (1, .int u1)]) hx hb dL_wouldCatch_6 rfl hl (by decide) rfl (fun ls hl => ?_)
      refine lv_bipush (v := (-78)) hx hb dL_wouldCatch_7 (by decide) ?_
      exact rc_eiret hx hb hr hlocks hW hS (Nat.le_of_ble_eq_true rfl) (Nat.le_of_ble_eq_true rfl) rfl dL_wouldCatch_9
    · exact (rc_lk_0 hkr).elim
set_option maxHeartbeats 4000000 in
set_option maxRecDepth 100000 in
theorem k_L_wouldLose (l : Launch) (hl9 : l.stackTraces = false) {Y : rc_Y} {sh : Nat → Nat} {rf : rc_F} (hT : rc_T Y sh rf) (z : rc_Z) (a0 : Nat) (u1 : Int32) (h0 : sh a0 = 9) (sz : Nat) (σ σ' : rc_S) (r : Int32) (hm : f_L_wouldLose rf z a0 u1 σ = some (r, σ')) : Met l yL_wouldLose (Cond.codeWith yL_wouldLose cL_wouldLose 3 (some .int) [(0, 5, 6, 54)] :: rc_big) ({ frames := 7, cells := 1, slots := 6, locals := 102 } : Room) (rc_PL Y sh rf σ sz z [.ref a0, .int u1]) (va_Qi (fun (r' : Int32) (_ : Unit) => r' = r) (fun _ t => rc_W Y sh rf σ' t.heap) (rc_A sh sz)) 1 6 (rc_A sh sz) := by
  refine va_MetW (cc := cL_wouldLose) (maxL := 3) (ret := (some .int)) (hh := [(0, 5, 6, 54)]) (by decide +kernel) rfl ?_
  intro p e s m args below meth c s₁ B hml hv
  obtain ⟨rfl, hsz, ⟨hW, hK, hE⟩, hN, hXz⟩ := hv
  have hx := B.exec
  have hb := B.bytes
  have hr := B.returns
  have hts0 : ∀ w ∈ (Cond.codeWith yL_wouldLose cL_wouldLose 3 (some .int) [(0, 5, 6, 54)] :: rc_big), w.before _ s = true := atoms_spec (ws := Cond.codeWith yL_wouldLose cL_wouldLose 3 (some .int) [(0, 5, 6, 54)] :: rc_big) B.pre
  have htab := vx_table (x := yL_wouldLose) B (hts0 _ List.mem_cons_self)
  have hts : ∀ w ∈ rc_big, w.before _ s = true := fun w h => hts0 w (List.mem_cons_of_mem _ h)
  have hown : s.vm.findClass RL = some m.cls := findClass_of_methodNamed B.named
  have hlocks := B.notSynchronized
  clear B
  subst hsz
  have hS : va_S (rc_A sh s.heap.size) s.heap s.heap [] := va_S.rf
  have hl := lv_entry ([.ref a0, .int u1]) (n := 3) (Nat.le_of_ble_eq_true rfl)
  rw [lg_entry_eq]
  generalize (lg_sl ([.ref a0, .int u1]) ++ List.replicate (3 - (lg_sl ([.ref a0, .int u1])).length) Slot.unset).toArray = ls at hl ⊢
  have hl : lv_has ls 3 [(0, .ref a0), (1, .int u1)] := hl
  refine lv_aload_n hx hb dL_wouldLose_0 rfl (lv_at hl 0 rfl) ?_
  refine lv_iload_n hx hb dL_wouldLose_1 rfl (lv_at hl 1 rfl) ?_
  unfold f_L_wouldLose at hm
  obtain ⟨k, r0, hm1, hkr⟩ := rc_tr_inv hm
  rcases hkr with ⟨hk, hrr⟩ | hkr
  · subst hk
    subst hrr
    refine vx_calli (vx_runV (As := [.int u1]) (rest := []) ⟨hx, hb, hml, hown, hts⟩ (k_X8_wouldLose l hl9 hT a0 u1 h0 s.heap.size _ _ _ _ hm1) (cwV 1 hts (rc_gV tw_3_110 tw_3_111 tw_3_112 tw_1_1 tw_3_113) rfl rfl rfl (by decide +kernel) ⟨Nat.le_of_ble_eq_true rfl, Nat.le_of_ble_eq_true rfl⟩) (rc_preV hT hW hK hE hS h0 (by decide) rfl (q := (RX8, TX8, 9)) rfl [.int u1]) rfl rfl hl.1 rfl (lv_room (Nat.le_of_ble_eq_true rfl)) dL_wouldLose_2 ⟨Nat.le_of_ble_eq_true rfl, Nat.le_of_ble_eq_true rfl⟩) hS rc_Ain (rc_Afr hS) rc_Ain (fun E ce q9 u t H locs ht _ hp _ _ _ _ _ _ _ => absurd rfl hp) (fun r1 u t H locs ht _ hp hW2 hz hq hS => ?_)
    obtain ⟨-, rfl⟩ := hp
    have hW := (show rc_W Y sh rf σ' H by rw [← ht]; exact hW2)
    clear hW2
    exact rc_eiret hx hb hr hlocks hW hS (Nat.le_of_ble_eq_true rfl) (Nat.le_of_ble_eq_true rfl) rfl dL_wouldLose_5
  · rcases rc_lk_1 hkr with ⟨hk, hrr⟩ | hkr
    · subst hk
      subst hrr
      refine vx_calli (vx_runV (As := [.int u1]) (rest := []) ⟨hx, hb, hml, hown, hts⟩ (k_X8_wouldLose l hl9 hT a0 u1 h0 s.heap.size _ _ _ _ hm1) (cwV 1 hts (rc_gV tw_3_110 tw_3_111 tw_3_112 tw_1_1 tw_3_113) rfl rfl rfl (by decide +kernel) ⟨Nat.le_of_ble_eq_true rfl, Nat.le_of_ble_eq_true rfl⟩) (rc_preV hT hW hK hE hS h0 (by decide) rfl (q := (RX8, TX8, 9)) rfl [.int u1]) rfl rfl hl.1 rfl (lv_room (Nat.le_of_ble_eq_true rfl)) dL_wouldLose_2 ⟨Nat.le_of_ble_eq_true rfl, Nat.le_of_ble_eq_true rfl⟩) hS rc_Ain (rc_Afr hS) rc_Ain (fun E ce q9 u t H locs ht _ hp hB hz hq hS hce hcv hcl => ?_) (fun r1 u t H locs ht _ hp _ _ _ _ => absurd hp.1 (by decide))
      obtain ⟨hE1, hW2⟩ := hB
      have hW := (show rc_W Y sh rf σ' H by rw [← ht]; exact hW2)
      clear hW2
      have hE2 : E = "java/lang/IllegalArgumentException" := hE1
      subst hE2
      refine vx_catch (name := "java/lang/IllegalArgumentException") hown [] ⟨0, 5, 6, 54⟩ [] htab (fun z hz => nomatch hz) (by decide) (by decide) (hts _ tw_3_71) (va_Nw.use rfl (rc_E_nw hE _ nw_3_81)) hce hcv hcl ?_
      show W p l e _ s m _ below meth c H locs _ _ _ (F0 m 6 ls [.ref q9])
      refine lv_astore_n (lv' := [(2, .ref q9), (0, .ref a0), (1, .int u1)]) hx hb dL_wouldLose_6 rfl hl (by decide) rfl (fun ls hl => ?_)
      refine lv_bipush (v := (-78)) hx hb dL_wouldLose_7 (by decide) ?_
      exact rc_eiret hx hb hr hlocks hW hS (Nat.le_of_ble_eq_true rfl) (Nat.le_of_ble_eq_true rfl) rfl dL_wouldLose_9
    · exact (rc_lk_0 hkr).elim
