def f_L_account (rf : rc_F) (z : rc_Z) (a0 : Nat) (u1 : Int32) (σ : rc_S) : Option (Int32 × rc_S) := rc_tr (f_X8_account rf a0 u1 σ) [(3, (-78 : Int32))]
def f_L_append (rf : rc_F) (z : rc_Z) (a0 : Nat) (u1 : Int32) (σ : rc_S) : Option (Int32 × rc_S) := rc_tr (f_X8_append rf a0 u1 σ) [(5, (-79 : Int32))]
def f_L_barrel (rf : rc_F) (z : rc_Z) (a0 : Nat) (u1 : Int32) (σ : rc_S) : Option (Int32 × rc_S) := rc_tr (f_X8_barrel rf a0 u1 σ) [(1, (-76 : Int32))]
def f_L_barrelOf (rf : rc_F) (z : rc_Z) (a0 : Nat) (u1 : Int32) (u2 : Int32) (σ : rc_S) : Option (Int32 × rc_S) := rc_tr (f_X8_barrelOf rf a0 u1 u2 σ) [(2, (-77 : Int32)), (3, (-78 : Int32))]
def f_L_canPour (rf : rc_F) (z : rc_Z) (a0 : Nat) (u1 : Int32) (u2 : Int32) (σ : rc_S) : Option (Int32 × rc_S) := rc_tr (rc_mz (f_X8_canPour rf a0 u1 u2 σ)) [(2, (-77 : Int32))]
def f_L_character (rf : rc_F) (z : rc_Z) (a0 : Nat) (u1 : Int32) (σ : rc_S) : Option (Int32 × rc_S) := rc_tr (f_X8_character rf a0 u1 σ) [(2, (-77 : Int32))]
def f_L_clear (rf : rc_F) (z : rc_Z) (a0 : Nat) (u1 : Int32) (σ : rc_S) : Option (Int32 × rc_S) := rc_tr (f_X8_clear rf a0 u1 σ) [(1, (-76 : Int32))]
def f_L_commands (rf : rc_F) (z : rc_Z) (a0 : Nat) (σ : rc_S) : Option (Int32 × rc_S) := rc_tr (f_X8_commands rf a0 σ) [(3, (-78 : Int32)), (1, (-76 : Int32))]
def f_L_drink (rf : rc_F) (z : rc_Z) (a0 : Nat) (u1 : Int32) (σ : rc_S) : Option (Int32 × rc_S) := rc_tr (f_X8_drink rf a0 u1 σ) [(1, (-76 : Int32))]
def f_L_hail (rf : rc_F) (z : rc_Z) (a0 : Nat) (u1 : Int32) (u2 : Int32) (σ : rc_S) : Option (Int32 × rc_S) := rc_tr (f_X8_hail rf a0 u1 u2 σ) [(1, (-76 : Int32))]
def f_L_hailShare (rf : rc_F) (z : rc_Z) (a0 : Nat) (σ : rc_S) : Option (UInt32 × rc_S) := rc_td (f_X8_hailShare rf a0 σ) 6 (3264479232 : UInt32)
def f_L_hidden (rf : rc_F) (z : rc_Z) (a0 : Nat) (u1 : Int32) (σ : rc_S) : Option (Int32 × rc_S) := rc_tr (f_X8_hidden rf a0 u1 σ) [(2, (-77 : Int32)), (4, (-75 : Int32))]
def f_L_hiddenAgain (rf : rc_F) (z : rc_Z) (a0 : Nat) (u1 : Int32) (σ : rc_S) : Option (Int32 × rc_S) := rc_tr (f_X8_hiddenAgain rf a0 u1 σ) [(2, (-77 : Int32)), (4, (-75 : Int32))]
def f_L_leave (rf : rc_F) (z : rc_Z) (a0 : Nat) (u1 : Int32) (σ : rc_S) : Option (Int32 × rc_S) := rc_tr (f_X8_leave rf a0 u1 σ) [(1, (-76 : Int32))]
def f_L_line (rf : rc_F) (z : rc_Z) (a0 : Nat) (u1 : Int32) (σ : rc_S) : Option (Int32 × rc_S) := rc_tr (f_X8_line rf a0 u1 σ) [(2, (-77 : Int32))]
def f_L_meanNote (rf : rc_F) (z : rc_Z) (a0 : Nat) (σ : rc_S) : Option (UInt64 × rc_S) := rc_td (f_X8_meanNote rf a0 σ) 6 (13858279740860792832 : UInt64)
def f_L_note (rf : rc_F) (z : rc_Z) (a0 : Nat) (u1 : Int32) (σ : rc_S) : Option (Int32 × rc_S) := rc_tr (f_X8_note rf a0 u1 σ) [(2, (-77 : Int32)), (4, (-75 : Int32))]
set_option maxHeartbeats 4000000 in
set_option maxRecDepth 100000 in
theorem k_L_account (l : Launch) (hl9 : l.stackTraces = false) {Y : rc_Y} {sh : Nat → Nat} {rf : rc_F} (hT : rc_T Y sh rf) (z : rc_Z) (a0 : Nat) (u1 : Int32) (h0 : sh a0 = 9) (sz : Nat) (σ σ' : rc_S) (r : Int32) (hm : f_L_account rf z a0 u1 σ = some (r, σ')) : Met l yL_account (Cond.codeWith yL_account cL_account 3 (some .int) [(0, 5, 6, 54)] :: rc_big) ({ frames := 7, cells := 1, slots := 6, locals := 102 } : Room) (rc_PL Y sh rf σ sz z [.ref a0, .int u1]) (va_Qi (fun (r' : Int32) (_ : Unit) => r' = r) (fun _ t => rc_W Y sh rf σ' t.heap) (rc_A sh sz)) 1 6 (rc_A sh sz) := by
  refine va_MetW (cc := cL_account) (maxL := 3) (ret := (some .int)) (hh := [(0, 5, 6, 54)]) (by decide +kernel) rfl ?_
  intro p e s m args below meth c s₁ B hml hv
  obtain ⟨rfl, hsz, ⟨hW, hK, hE⟩, hN, hXz⟩ := hv
  have hx := B.exec
  have hb := B.bytes
  have hr := B.returns
  have hts0 : ∀ w ∈ (Cond.codeWith yL_account cL_account 3 (some .int) [(0, 5, 6, 54)] :: rc_big), w.before _ s = true := atoms_spec (ws := Cond.codeWith yL_account cL_account 3 (some .int) [(0, 5, 6, 54)] :: rc_big) B.pre
  have htab := vx_table (x := yL_account) B (hts0 _ List.mem_cons_self)
  have hts : ∀ w ∈ rc_big, w.before _ s = true := fun w h => hts0 w (List.mem_cons_of_mem _ h)
  have hown : s.vm.findClass RL = some m.cls := findClass_of_methodNamed B.named
  have hlocks := B.notSynchronized
  clear B
  subst hsz
  have hS : va_S (rc_A sh s.heap.size) s.heap s.heap [] := va_S.rf
  have hl := lv_entry ([.ref a0, .int u1]) (n := 3) (Nat.le_of_ble_eq_true rfl)
  rw [lg_entry_eq]
  generalize (lg_sl ([.ref a0, .int u1]) ++ List.replicate (3 - (lg_sl ([.ref a0, .int u1])).length) Slot.unset).toArray = ls at hl ⊢
  have hl : lv_has ls 3 [(0, .ref a0), (1, .int u1)] := hl
  refine lv_aload_n hx hb dL_account_0 rfl (lv_at hl 0 rfl) ?_
  refine lv_iload_n hx hb dL_account_1 rfl (lv_at hl 1 rfl) ?_
  unfold f_L_account at hm
  obtain ⟨k, r0, hm1, hkr⟩ := rc_tr_inv hm
  rcases hkr with ⟨hk, hrr⟩ | hkr
  · subst hk
    subst hrr
    refine vx_calli (vx_runV (As := [.int u1]) (rest := []) ⟨hx, hb, hml, hown, hts⟩ (k_X8_account l hl9 hT a0 u1 h0 s.heap.size _ _ _ _ hm1) (cwV 1 hts (rc_gV tw_3_121 tw_3_122 tw_3_123 tw_1_1 tw_3_124) rfl rfl rfl (by decide +kernel) ⟨Nat.le_of_ble_eq_true rfl, Nat.le_of_ble_eq_true rfl⟩) (rc_preV hT hW hK hE hS h0 (by decide) rfl (q := (RX8, TX8, 9)) rfl [.int u1]) rfl rfl hl.1 rfl (lv_room (Nat.le_of_ble_eq_true rfl)) dL_account_2 ⟨Nat.le_of_ble_eq_true rfl, Nat.le_of_ble_eq_true rfl⟩) hS rc_Ain (rc_Afr hS) rc_Ain (fun E ce q9 u t H locs ht _ hp _ _ _ _ _ _ _ => absurd rfl hp) (fun r1 u t H locs ht _ hp hW2 hz hq hS => ?_)
    obtain ⟨-, rfl⟩ := hp
    have hW := (show rc_W Y sh rf σ' H by rw [← ht]; exact hW2)
    clear hW2
    exact rc_eiret hx hb hr hlocks hW hS (Nat.le_of_ble_eq_true rfl) (Nat.le_of_ble_eq_true rfl) rfl dL_account_5
  · rcases rc_lk_1 hkr with ⟨hk, hrr⟩ | hkr
    · subst hk
      subst hrr
      refine vx_calli (vx_runV (As := [.int u1]) (rest := []) ⟨hx, hb, hml, hown, hts⟩ (k_X8_account l hl9 hT a0 u1 h0 s.heap.size _ _ _ _ hm1) (cwV 1 hts (rc_gV tw_3_121 tw_3_122 tw_3_123 tw_1_1 tw_3_124) rfl rfl rfl (by decide +kernel) ⟨Nat.le_of_ble_eq_true rfl, Nat.le_of_ble_eq_true rfl⟩) (rc_preV hT hW hK hE hS h0 (by decide) rfl (q := (RX8, TX8, 9)) rfl [.int u1]) rfl rfl hl.1 rfl (lv_room (Nat.le_of_ble_eq_true rfl)) dL_account_2 ⟨Nat.le_of_ble_eq_true rfl, Nat.le_of_ble_eq_true rfl⟩) hS rc_Ain (rc_Afr hS) rc_Ain (fun E ce q9 u t H locs ht _ hp hB hz hq hS hce hcv hcl => ?_) (fun r1 u t H locs ht _ hp _ _ _ _ => absurd hp.1 (by decide))
      obtain ⟨hE1, hW2⟩ := hB
      have hW := (show rc_W Y sh rf σ' H by rw [← ht]; exact hW2)
      clear hW2
      have hE2 : E = "java/lang/IllegalArgumentException" := hE1
      subst hE2
      refine vx_catch (name := "java/lang/IllegalArgumentException") hown [] ⟨0, 5, 6, 54⟩ [] htab (fun z hz => nomatch hz) (by decide) (by decide) (hts _ tw_3_71) (va_Nw.use rfl (rc_E_nw hE _ nw_3_81)) hce hcv hcl ?_
      show W p l e _ s m _ below meth c H locs _ _ _ (F0 m 6 ls [.ref q9])
      refine lv_astore_n (lv' := [(2, .ref q9), (0, .ref a0), (1, .int u1)]) hx hb dL_account_6 rfl hl (by decide) rfl (fun ls hl => ?_)
      refine lv_bipush (v := (-78)) hx hb dL_account_7 (by decide) ?_
      exact rc_eiret hx hb hr hlocks hW hS (Nat.le_of_ble_eq_true rfl) (Nat.le_of_ble_eq_true rfl) rfl dL_account_9
    · exact (rc_lk_0 hkr).elim
set_option maxHeartbeats 4000000 in
set_option maxRecDepth 100000 in
theorem k_L_append (l : Launch) (hl9 : l.stackTraces = false) {Y : rc_Y} {sh : Nat → Nat} {rf : rc_F} (hT : rc_T Y sh rf) (z : rc_Z) (a0 : Nat) (u1 : Int32) (h0 : sh a0 = 9) (sz : Nat) (σ σ' : rc_S) (r : Int32) (hm : f_L_append rf z a0 u1 σ = some (r, σ')) : Met l yL_append (Cond.codeWith yL_append cL_append 3 (some .int) [(0, 5, 6, 105)] :: rc_big) ({ frames := 7, cells := 1, slots := 6, locals := 102 } : Room) (rc_PL Y sh rf σ sz z [.ref a0, .int u1]) (va_Qi (fun (r' : Int32) (_ : Unit) => r' = r) (fun _ t => rc_W Y sh rf σ' t.heap) (rc_A sh sz)) 1 6 (rc_A sh sz) := by
  refine va_MetW (cc := cL_append) (maxL := 3) (ret := (some .int)) (hh := [(0, 5, 6, 105)]) (by decide +kernel) rfl ?_
  intro p e s m args below meth c s₁ B hml hv
  obtain ⟨rfl, hsz, ⟨hW, hK, hE⟩, hN, hXz⟩ := hv
  have hx := B.exec
  have hb := B.bytes
  have hr := B.returns
  have hts0 : ∀ w ∈ (Cond.codeWith yL_append cL_append 3 (some .int) [(0, 5, 6, 105)] :: rc_big), w.before _ s = true := atoms_spec (ws := Cond.codeWith yL_append cL_append 3 (some .int) [(0, 5, 6, 105)] :: rc_big) B.pre
  have htab := vx_table (x := yL_append) B (hts0 _ List.mem_cons_self)
  have hts : ∀ w ∈ rc_big, w.before _ s = true := fun w h => hts0 w (List.mem_cons_of_mem _ h)
  have hown : s.vm.findClass RL = some m.cls := findClass_of_methodNamed B.named
  have hlocks := B.notSynchronized
  clear B
  subst hsz
  have hS : va_S (rc_A sh s.heap.size) s.heap s.heap [] := va_S.rf
  have hl := lv_entry ([.ref a0, .int u1]) (n := 3) (Nat.le_of_ble_eq_true rfl)
  rw [lg_entry_eq]
  generalize (lg_sl ([.ref a0, .int u1]) ++ List.replicate (3 - (lg_sl ([.ref a0, .int u1])).length) Slot.unset).toArray = ls at hl ⊢
  have hl : lv_has ls 3 [(0, .ref a0), (1, .int u1)] := hl
  refine lv_aload_n hx hb dL_append_0 rfl (lv_at hl 0 rfl) ?_
  refine lv_iload_n hx hb dL_append_1 rfl (lv_at hl 1 rfl) ?_
  unfold f_L_append at hm
  obtain ⟨k, r0, hm1, hkr⟩ := rc_tr_inv hm
  rcases hkr with ⟨hk, hrr⟩ | hkr
  · subst hk
    subst hrr
    refine vx_calli (vx_runV (As := [.int u1]) (rest := []) ⟨hx, hb, hml, hown, hts⟩ (k_X8_append l hl9 hT a0 u1 h0 s.heap.size _ _ _ _ hm1) (cwV 1 hts (rc_gV tw_5_144 tw_5_145 tw_5_146 tw_1_1 tw_5_147) rfl rfl rfl (by decide +kernel) ⟨Nat.le_of_ble_eq_true rfl, Nat.le_of_ble_eq_true rfl⟩) (rc_preV hT hW hK hE hS h0 (by decide) rfl (q := (RX8, TX8, 9)) rfl [.int u1]) rfl rfl hl.1 rfl (lv_room (Nat.le_of_ble_eq_true rfl)) dL_append_2 ⟨Nat.le_of_ble_eq_true rfl, Nat.le_of_ble_eq_true rfl⟩) hS rc_Ain (rc_Afr hS) rc_Ain (fun E ce q9 u t H locs ht _ hp _ _ _ _ _ _ _ => absurd rfl hp) (fun r1 u t H locs ht _ hp hW2 hz hq hS => ?_)
    obtain ⟨-, rfl⟩ := hp
    have hW := (show rc_W Y sh rf σ' H by rw [← ht]; exact hW2)
    clear hW2
    exact rc_eiret hx hb hr hlocks hW hS (Nat.le_of_ble_eq_true rfl) (Nat.le_of_ble_eq_true rfl) rfl dL_append_5
  · rcases rc_lk_1 hkr with ⟨hk, hrr⟩ | hkr
    · subst hk
      subst hrr
      refine vx_calli (vx_runV (As := [.int u1]) (rest := []) ⟨hx, hb, hml, hown, hts⟩ (k_X8_append l hl9 hT a0 u1 h0 s.heap.size _ _ _ _ hm1) (cwV 1 hts (rc_gV tw_5_144 tw_5_145 tw_5_146 tw_1_1 tw_5_147) rfl rfl rfl (by decide +kernel) ⟨Nat.le_of_ble_eq_true rfl, Nat.le_of_ble_eq_true rfl⟩) (rc_preV hT hW hK hE hS h0 (by decide) rfl (q := (RX8, TX8, 9)) rfl [.int u1]) rfl rfl hl.1 rfl (lv_room (Nat.le_of_ble_eq_true rfl)) dL_append_2 ⟨Nat.le_of_ble_eq_true rfl, Nat.le_of_ble_eq_true rfl⟩) hS rc_Ain (rc_Afr hS) rc_Ain (fun E ce q9 u t H locs ht _ hp hB hz hq hS hce hcv hcl => ?_) (fun r1 u t H locs ht _ hp _ _ _ _ => absurd hp.1 (by decide))
      obtain ⟨hE1, hW2⟩ := hB
      have hW := (show rc_W Y sh rf σ' H by rw [← ht]; exact hW2)
      clear hW2
      have hE2 : E = "java/lang/IllegalStateException" := hE1
      subst hE2
      refine vx_catch (name := "java/lang/IllegalStateException") hown [] ⟨0, 5, 6, 105⟩ [] htab (fun z hz => nomatch hz) (by decide) (by decide) (hts _ tw_5_143) (va_Nw.use rfl (rc_E_nw hE _ nw_5_150)) hce hcv hcl ?_
      show W p l e _ s m _ below meth c H locs _ _ _ (F0 m 6 ls [.ref q9])
      refine lv_astore_n (lv' := [(2, .ref q9), (0, .ref a0), (1, .int u1)]) hx hb dL_append_6 rfl hl (by decide) rfl (fun ls hl => ?_)
      refine lv_bipush (v := (-79)) hx hb dL_append_7 (by decide) ?_
      exact rc_eiret hx hb hr hlocks hW hS (Nat.le_of_ble_eq_true rfl) (Nat.le_of_ble_eq_true rfl) rfl dL_append_9
    · exact (rc_lk_0 hkr).elim
set_option maxHeartbeats 4000000 in
set_option maxRecDepth 100000 in
theorem k_L_barrel (l : Launch) (hl9 : l.stackTraces = false) {Y : rc_Y} {sh : Nat → Nat} {rf : rc_F} (hT : rc_T Y sh rf) (z : rc_Z) (a0 : Nat) (u1 : Int32) (h0 : sh a0 = 9) (sz : Nat) (σ σ' : rc_S) (r : Int32) (hm : f_L_barrel rf z a0 u1 σ = some (r, σ')) : Met l yL_barrel (Cond.codeWith yL_barrel cL_barrel 3 (some .int) [(0, 5, 6, 20)] :: rc_big) ({ frames := 8, cells := 1, slots := 6, locals := 123 } : Room) (rc_PL Y sh rf σ sz z [.ref a0, .int u1]) (va_Qi (fun (r' : Int32) (_ : Unit) => r' = r) (fun _ t => rc_W Y sh rf σ' t.heap) (rc_A sh sz)) 1 6 (rc_A sh sz) := by
  refine va_MetW (cc := cL_barrel) (maxL := 3) (ret := (some .int)) (hh := [(0, 5, 6, 20)]) (by decide +kernel) rfl ?_
  intro p e s m args below meth c s₁ B hml hv
  obtain ⟨rfl, hsz, ⟨hW, hK, hE⟩, hN, hXz⟩ := hv
  have hx := B.exec
  have hb := B.bytes
  have hr := B.returns
  have hts0 : ∀ w ∈ (Cond.codeWith yL_barrel cL_barrel 3 (some .int) [(0, 5, 6, 20)] :: rc_big), w.before _ s = true := atoms_spec (ws := Cond.codeWith yL_barrel cL_barrel 3 (some .int) [(0, 5, 6, 20)] :: rc_big) B.pre
  have htab := vx_table (x := yL_barrel) B (hts0 _ List.mem_cons_self)
  have hts : ∀ w ∈ rc_big, w.before _ s = true := fun w h => hts0 w (List.mem_cons_of_mem _ h)
  have hown : s.vm.findClass RL = some m.cls := findClass_of_methodNamed B.named
  have hlocks := B.notSynchronized
  clear B
  subst hsz
  have hS : va_S (rc_A sh s.heap.size) s.heap s.heap [] := va_S.rf
  have hl := lv_entry ([.ref a0, .int u1]) (n := 3) (Nat.le_of_ble_eq_true rfl)
  rw [lg_entry_eq]
  generalize (lg_sl ([.ref a0, .int u1]) ++ List.replicate (3 - (lg_sl ([.ref a0, .int u1])).length) Slot.unset).toArray = ls at hl ⊢
  have hl : lv_has ls 3 [(0, .ref a0), (1, .int u1)] := hl
  refine lv_aload_n hx hb dL_barrel_0 rfl (lv_at hl 0 rfl) ?_
  refine lv_iload_n hx hb dL_barrel_1 rfl (lv_at hl 1 rfl) ?_
  unfold f_L_barrel at hm
  obtain ⟨k, r0, hm1, hkr⟩ := rc_tr_inv hm
  rcases hkr with ⟨hk, hrr⟩ | hkr
  · subst hk
    subst hrr
    refine vx_calli (vx_runV (As := [.int u1]) (rest := []) ⟨hx, hb, hml, hown, hts⟩ (k_X8_barrel l hl9 hT a0 u1 h0 s.heap.size _ _ _ _ hm1) (cwV 1 hts (rc_gV tw_3_136 tw_3_137 tw_3_138 tw_1_1 tw_3_139) rfl rfl rfl (by decide +kernel) ⟨Nat.le_of_ble_eq_true rfl, Nat.le_of_ble_eq_true rfl⟩) (rc_preV hT hW hK hE hS h0 (by decide) rfl (q := (RX8, TX8, 9)) rfl [.int u1]) rfl rfl hl.1 rfl (lv_room (Nat.le_of_ble_eq_true rfl)) dL_barrel_2 ⟨Nat.le_of_ble_eq_true rfl, Nat.le_of_ble_eq_true rfl⟩) hS rc_Ain (rc_Afr hS) rc_Ain (fun E ce q9 u t H locs ht _ hp _ _ _ _ _ _ _ => absurd rfl hp) (fun r1 u t H locs ht _ hp hW2 hz hq hS => ?_)
    obtain ⟨-, rfl⟩ := hp
    have hW := (show rc_W Y sh rf σ' H by rw [← ht]; exact hW2)
    clear hW2
    exact rc_eiret hx hb hr hlocks hW hS (Nat.le_of_ble_eq_true rfl) (Nat.le_of_ble_eq_true rfl) rfl dL_barrel_5
  · rcases rc_lk_1 hkr with ⟨hk, hrr⟩ | hkr
    · subst hk
      subst hrr
      refine vx_calli (vx_runV (As := [.int u1]) (rest := []) ⟨hx, hb, hml, hown, hts⟩ (k_X8_barrel l hl9 hT a0 u1 h0 s.heap.size _ _ _ _ hm1) (cwV 1 hts (rc_gV tw_3_136 tw_3_137 tw_3_138 tw_1_1 tw_3_139) rfl rfl rfl (by decide +kernel) ⟨Nat.le_of_ble_eq_true rfl, Nat.le_of_ble_eq_true rfl⟩) (rc_preV hT hW hK hE hS h0 (by decide) rfl (q := (RX8, TX8, 9)) rfl [.int u1]) rfl rfl hl.1 rfl (lv_room (Nat.le_of_ble_eq_true rfl)) dL_barrel_2 ⟨Nat.le_of_ble_eq_true rfl, Nat.le_of_ble_eq_true rfl⟩) hS rc_Ain (rc_Afr hS) rc_Ain (fun E ce q9 u t H locs ht _ hp hB hz hq hS hce hcv hcl => ?_) (fun r1 u t H locs ht _ hp _ _ _ _ => absurd hp.1 (by decide))
      obtain ⟨hE1, hW2⟩ := hB
      have hW := (show rc_W Y sh rf σ' H by rw [← ht]; exact hW2)
      clear hW2
      have hE2 : E = "java/lang/UnsupportedOperationException" := hE1
      subst hE2
      refine vx_catch (name := "java/lang/UnsupportedOperationException") hown [] ⟨0, 5, 6, 20⟩ [] htab (fun z hz => nomatch hz) (by decide) (by decide) (hts _ tw_3_135) (va_Nw.use rfl (rc_E_nw hE _ nw_3_198)) hce hcv hcl ?_
      show W p l e _ s m _ below meth c H locs _ _ _ (F0 m 6 ls [.ref q9])
      refine lv_astore_n (lv' := [(2, .ref q9), (0, .ref a0), (1, .int u1)]) hx hb dL_barrel_6 rfl hl (by decide) rfl (fun ls hl => ?_)
      refine lv_bipush (v := (-76)) hx hb dL_barrel_7 (by decide) ?_
      exact rc_eiret hx hb hr hlocks hW hS (Nat.le_of_ble_eq_true rfl) (Nat.le_of_ble_eq_true rfl) rfl dL_barrel_9
    · exact (rc_lk_0 hkr).elim
set_option maxHeartbeats 4000000 in
set_option maxRecDepth 100000 in
theorem k_L_barrelOf (l : Launch) (hl9 : l.stackTraces = false) {Y : rc_Y} {sh : Nat → Nat} {rf : rc_F} (hT : rc_T Y sh rf) (z : rc_Z) (a0 : Nat) (u1 : Int32) (u2 : Int32) (h0 : sh a0 = 9) (sz : Nat) (σ σ' : rc_S) (r : Int32) (hm : f_L_barrelOf rf z a0 u1 u2 σ = some (r, σ')) : Met l yL_barrelOf (Cond.codeWith yL_barrelOf cL_barrelOf 4 (some .int) [(0, 6, 7, 52), (0, 6, 11, 54)] :: rc_big) ({ frames := 8, cells := 2, slots := 12, locals := 125 } : Room) (rc_PL Y sh rf σ sz z [.ref a0, .int u1, .int u2]) (va_Qi (fun (r' : Int32) (_ : Unit) => r' = r) (fun _ t => rc_W Y sh rf σ' t.heap) (rc_A sh sz)) 2 12 (rc_A sh sz) := by
  refine va_MetW (cc := cL_barrelOf) (maxL := 4) (ret := (some .int)) (hh := [(0, 6, 7, 52), (0, 6, 11, 54)]) (by decide +kernel) rfl ?_
  intro p e s m args below meth c s₁ B hml hv
  obtain ⟨rfl, hsz, ⟨hW, hK, hE⟩, hN, hXz⟩ := hv
  have hx := B.exec
  have hb := B.bytes
  have hr := B.returns
  have hts0 : ∀ w ∈ (Cond.codeWith yL_barrelOf cL_barrelOf 4 (some .int) [(0, 6, 7, 52), (0, 6, 11, 54)] :: rc_big), w.before _ s = true := atoms_spec (ws := Cond.codeWith yL_barrelOf cL_barrelOf 4 (some .int) [(0, 6, 7, 52), (0, 6, 11, 54)] :: rc_big) B.pre
  have htab := vx_table (x := yL_barrelOf) B (hts0 _ List.mem_cons_self)
  have hts : ∀ w ∈ rc_big, w.before _ s = true := fun w h => hts0 w (List.mem_cons_of_mem _ h)
  have hown : s.vm.findClass RL = some m.cls := findClass_of_methodNamed B.named
  have hlocks := B.notSynchronized
  clear B
  subst hsz
  have hS : va_S (rc_A sh s.heap.size) s.heap s.heap [] := va_S.rf
  have hl := lv_entry ([.ref a0, .int u1, .int u2]) (n := 4) (Nat.le_of_ble_eq_true rfl)
  rw [lg_entry_eq]
  generalize (lg_sl ([.ref a0, .int u1, .int u2]) ++ List.replicate (4 - (lg_sl ([.ref a0, .int u1, .int u2])).length) Slot.unset).toArray = ls at hl ⊢
  have hl : lv_has ls 4 [(0, .ref a0), (1, .int u1), (2, .int u2)] := hl
  refine lv_aload_n hx hb dL_barrelOf_0 rfl (lv_at hl 0 rfl) ?_
  refine lv_iload_n hx hb dL_barrelOf_1 rfl (lv_at hl 1 rfl) ?_
  refine lv_iload_n hx hb dL_barrelOf_2 rfl (lv_at hl 2 rfl) ?_
  unfold f_L_barrelOf at hm
  obtain ⟨k, r0, hm1, hkr⟩ := rc_tr_inv hm
  rcases hkr with ⟨hk, hrr⟩ | hkr
  · subst hk
    subst hrr
    refine vx_calli (vx_runV (As := [.int u1, .int u2]) (rest := []) ⟨hx, hb, hml, hown, hts⟩ (k_X8_barrelOf l hl9 hT a0 u1 u2 h0 s.heap.size _ _ _ _ hm1) (cwV 2 hts (rc_gV tw_6_48 tw_6_49 tw_6_50 tw_1_1 tw_6_51) rfl rfl rfl (by decide +kernel) ⟨Nat.le_of_ble_eq_true rfl, Nat.le_of_ble_eq_true rfl⟩) (rc_preV hT hW hK hE hS h0 (by decide) rfl (q := (RX8, TX8, 9)) rfl [.int u1, .int u2]) rfl rfl hl.1 rfl (lv_room (Nat.le_of_ble_eq_true rfl)) dL_barrelOf_3 ⟨Nat.le_of_ble_eq_true rfl, Nat.le_of_ble_eq_true rfl⟩) hS rc_Ain (rc_Afr hS) rc_Ain (fun E ce q9 u t H locs ht _ hp _ _ _ _ _ _ _ => absurd rfl hp) (fun r1 u t H locs ht _ hp hW2 hz hq hS => ?_)
    obtain ⟨-, rfl⟩ := hp
    have hW := (show rc_W Y sh rf σ' H by rw [← ht]; exact hW2)
    clear hW2
    exact rc_eiret hx hb hr hlocks hW hS (Nat.le_of_ble_eq_true rfl) (Nat.le_of_ble_eq_true rfl) rfl dL_barrelOf_6
  · rcases rc_lk_1 hkr with ⟨hk, hrr⟩ | hkr
    · subst hk
      subst hrr
      refine vx_calli (vx_runV (As := [.int u1, .int u2]) (rest := []) ⟨hx, hb, hml, hown, hts⟩ (k_X8_barrelOf l hl9 hT a0 u1 u2 h0 s.heap.size _ _ _ _ hm1) (cwV 2 hts (rc_gV tw_6_48 tw_6_49 tw_6_50 tw_1_1 tw_6_51) rfl rfl rfl (by decide +kernel) ⟨Nat.le_of_ble_eq_true rfl, Nat.le_of_ble_eq_true rfl⟩) (rc_preV hT hW hK hE hS h0 (by decide) rfl (q := (RX8, TX8, 9)) rfl [.int u1, .int u2]) rfl rfl hl.1 rfl (lv_room (Nat.le_of_ble_eq_true rfl)) dL_barrelOf_3 ⟨Nat.le_of_ble_eq_true rfl, Nat.le_of_ble_eq_true rfl⟩) hS rc_Ain (rc_Afr hS) rc_Ain (fun E ce q9 u t H locs ht _ hp hB hz hq hS hce hcv hcl => ?_) (fun r1 u t H locs ht _ hp _ _ _ _ => absurd hp.1 (by decide))
      obtain ⟨hE1, hW2⟩ := hB
      have hW := (show rc_W Y sh rf σ' H by rw [← ht]; exact hW2)
      clear hW2
      have hE2 : E = "java/lang/IndexOutOfBoundsException" := hE1
      subst hE2
      refine vx_catch (name := "java/lang/IndexOutOfBoundsException") hown [] ⟨0, 6, 7, 52⟩ [⟨0, 6, 11, 54⟩] htab (fun z hz => nomatch hz) (by decide) (by decide) (hts _ tw_2_120) (va_Nw.use rfl (rc_E_nw hE _ nw_2_219)) hce hcv hcl ?_
      show W p l e _ s m _ below meth c H locs _ _ _ (F0 m 7 ls [.ref q9])
      refine lv_astore_n (lv' := [(3, .ref q9), (0, .ref a0), (1, .int u1), (2, .int u2)]) hx hb dL_barrelOf_7 rfl hl (by decide) rfl (fun ls hl => ?_)
      refine lv_bipush (v := (-77)) hx hb dL_barrelOf_8 (by decide) ?_
      exact rc_eiret hx hb hr hlocks hW hS (Nat.le_of_ble_eq_true rfl) (Nat.le_of_ble_eq_true rfl) rfl dL_barrelOf_10
    · rcases rc_lk_1 hkr with ⟨hk, hrr⟩ | hkr
      · subst hk
        subst hrr
        refine vx_calli (vx_runV (As := [.int u1, .int u2]) (rest := []) ⟨hx, hb, hml, hown, hts⟩ (k_X8_barrelOf l hl9 hT a0 u1 u2 h0 s.heap.size _ _ _ _ hm1) (cwV 2 hts (rc_gV tw_6_48 tw_6_49 tw_6_50 tw_1_1 tw_6_51) rfl rfl rfl (by decide +kernel) ⟨Nat.le_of_ble_eq_true rfl, Nat.le_of_ble_eq_true rfl⟩) (rc_preV hT hW hK hE hS h0 (by decide) rfl (q := (RX8, TX8, 9)) rfl [.int u1, .int u2]) rfl rfl hl.1 rfl (lv_room (Nat.le_of_ble_eq_true rfl)) dL_barrelOf_3 ⟨Nat.le_of_ble_eq_true rfl, Nat.le_of_ble_eq_true rfl⟩) hS rc_Ain (rc_Afr hS) rc_Ain (fun E ce q9 u t H locs ht _ hp hB hz hq hS hce hcv hcl => ?_) (fun r1 u t H locs ht _ hp _ _ _ _ => absurd hp.1 (by decide))
        obtain ⟨hE1, hW2⟩ := hB
        have hW := (show rc_W Y sh rf σ' H by rw [← ht]; exact hW2)
        clear hW2
        have hE2 : E = "java/lang/IllegalArgumentException" := hE1
        subst hE2
        refine vx_catch (name := "java/lang/IllegalArgumentException") hown [⟨0, 6, 7, 52⟩] ⟨0, 6, 11, 54⟩ [] htab (List.forall_mem_cons.mpr ⟨Or.inr ⟨by decide, "java/lang/IndexOutOfBoundsException", hts _ tw_2_120, hN.1⟩, fun _ h => nomatch h⟩) (by decide) (by decide) (hts _ tw_3_71) (va_Nw.use rfl (rc_E_nw hE _ nw_3_81)) hce hcv hcl ?_
        show W p l e _ s m _ below meth c H locs _ _ _ (F0 m 11 ls [.ref q9])
        refine lv_astore_n (lv' := [(3, .ref q9), (0, .ref a0), (1, .int u1), (2, .int u2)]) hx hb dL_barrelOf_11 rfl hl (by decide) rfl (fun ls hl => ?_)
        refine lv_bipush (v := (-78)) hx hb dL_barrelOf_12 (by decide) ?_
        exact rc_eiret hx hb hr hlocks hW hS (Nat.le_of_ble_eq_true rfl) (Nat.le_of_ble_eq_true rfl) rfl dL_barrelOf_14
      · exact (rc_lk_0 hkr).elim
set_option maxHeartbeats 4000000 in
set_option maxRecDepth 100000 in
theorem k_L_canPour (l : Launch) (hl9 : l.stackTraces = false) {Y : rc_Y} {sh : Nat → Nat} {rf : rc_F} (hT : rc_T Y sh rf) (z : rc_Z) (a0 : Nat) (u1 : Int32) (u2 : Int32) (h0 : sh a0 = 9) (sz : Nat) (σ σ' : rc_S) (r : Int32) (hm : f_L_canPour rf z a0 u1 u2 σ = some (r, σ')) : Met l yL_canPour (Cond.codeWith yL_canPour cL_canPour 4 (some .int) [(0, 14, 15, 52)] :: rc_big) ({ frames := 8, cells := 2, slots := 12, locals := 126 } : Room) (rc_PL Y sh rf σ sz z [.ref a0, .int u1, .int u2]) (va_Qi (fun (r' : Int32) (_ : Unit) => r' = r) (fun _ t => rc_W Y sh rf σ' t.heap) (rc_A sh sz)) 2 12 (rc_A sh sz) := by
  refine va_MetW (cc := cL_canPour) (maxL := 4) (ret := (some .int)) (hh := [(0, 14, 15, 52)]) (by decide +kernel) rfl ?_
  intro p e s m args below meth c s₁ B hml hv
  obtain ⟨rfl, hsz, ⟨hW, hK, hE⟩, hN, hXz⟩ := hv
  have hx := B.exec
  have hb := B.bytes
  have hr := B.returns
  have hts0 : ∀ w ∈ (Cond.codeWith yL_canPour cL_canPour 4 (some .int) [(0, 14, 15, 52)] :: rc_big), w.before _ s = true := atoms_spec (ws := Cond.codeWith yL_canPour cL_canPour 4 (some .int) [(0, 14, 15, 52)] :: rc_big) B.pre
  have htab := vx_table (x := yL_canPour) B (hts0 _ List.mem_cons_self)
  have hts : ∀ w ∈ rc_big, w.before _ s = true := fun w h => hts0 w (List.mem_cons_of_mem _ h)
  have hown : s.vm.findClass RL = some m.cls := findClass_of_methodNamed B.named
  have hlocks := B.notSynchronized
  clear B
  subst hsz
  have hS : va_S (rc_A sh s.heap.size) s.heap s.heap [] := va_S.rf
  have hl := lv_entry ([.ref a0, .int u1, .int u2]) (n := 4) (Nat.le_of_ble_eq_true rfl)
  rw [lg_entry_eq]
  generalize (lg_sl ([.ref a0, .int u1, .int u2]) ++ List.replicate (4 - (lg_sl ([.ref a0, .int u1, .int u2])).length) Slot.unset).toArray = ls at hl ⊢
  have hl : lv_has ls 4 [(0, .ref a0), (1, .int u1), (2, .int u2)] := hl
  refine lv_aload_n hx hb dL_canPour_0 rfl (lv_at hl 0 rfl) ?_
  refine lv_iload_n hx hb dL_canPour_1 rfl (lv_at hl 1 rfl) ?_
  refine lv_iload_n hx hb dL_canPour_2 rfl (lv_at hl 2 rfl) ?_
  unfold f_L_canPour at hm
  obtain ⟨k, r0, hm1, hkr⟩ := rc_tr_inv hm
  obtain ⟨r9, hm2, hr9⟩ := rc_mz_inv hm1
  rcases hkr with ⟨hk, hrr⟩ | hkr
  · subst hk
    subst hrr
    refine vx_calli (vx_runV (As := [.int u1, .int u2]) (rest := []) ⟨hx, hb, hml, hown, hts⟩ (k_X8_canPour l hl9 hT a0 u1 u2 h0 s.heap.size _ _ _ _ hm2) (cwV 2 hts (rc_gV tw_6_215 tw_6_216 tw_6_217 tw_1_1 tw_6_218) rfl rfl rfl (by decide +kernel) ⟨Nat.le_of_ble_eq_true rfl, Nat.le_of_ble_eq_true rfl⟩) (rc_preV hT hW hK hE hS h0 (by decide) rfl (q := (RX8, TX8, 9)) rfl [.int u1, .int u2]) rfl rfl hl.1 rfl (lv_room (Nat.le_of_ble_eq_true rfl)) dL_canPour_3 ⟨Nat.le_of_ble_eq_true rfl, Nat.le_of_ble_eq_true rfl⟩) hS rc_Ain (rc_Afr hS) rc_Ain (fun E ce q9 u t H locs ht _ hp _ _ _ _ _ _ _ => absurd rfl hp) (fun r1 u t H locs ht _ hp hW2 hz hq hS => ?_)
    obtain ⟨-, rfl⟩ := hp
    have hW := (show rc_W Y sh rf σ' H by rw [← ht]; exact hW2)
    clear hW2
    refine lv_if_eq (tgt := 13) hx hb dL_canPour_6 (by decide) (fun c9 => ?_) (fun c9 => ?_)
    · rw [if_pos c9] at hr9
      subst hr9
      refine lv_iconst (v := 0) hx hb dL_canPour_13 (by decide) ?_
      exact rc_eiret hx hb hr hlocks hW hS (Nat.le_of_ble_eq_true rfl) (Nat.le_of_ble_eq_true rfl) rfl dL_canPour_14
    · rw [if_neg c9] at hr9
      subst hr9
      refine lv_iconst (v := 1) hx hb dL_canPour_9 (by decide) ?_
      refine lv_goto (tgt := 14) hx hb dL_canPour_10 (by decide) ?_
      exact rc_eiret hx hb hr hlocks hW hS (Nat.le_of_ble_eq_true rfl) (Nat.le_of_ble_eq_true rfl) rfl dL_canPour_14
  · rcases rc_lk_1 hkr with ⟨hk, hrr⟩ | hkr
    · subst hk
      subst hrr
      refine vx_calli (vx_runV (As := [.int u1, .int u2]) (rest := []) ⟨hx, hb, hml, hown, hts⟩ (k_X8_canPour l hl9 hT a0 u1 u2 h0 s.heap.size _ _ _ _ hm2) (cwV 2 hts (rc_gV tw_6_215 tw_6_216 tw_6_217 tw_1_1 tw_6_218) rfl rfl rfl (by decide +kernel) ⟨Nat.le_of_ble_eq_true rfl, Nat.le_of_ble_eq_true rfl⟩) (rc_preV hT hW hK hE hS h0 (by decide) rfl (q := (RX8, TX8, 9)) rfl [.int u1, .int u2]) rfl rfl hl.1 rfl (lv_room (Nat.le_of_ble_eq_true rfl)) dL_canPour_3 ⟨Nat.le_of_ble_eq_true rfl, Nat.le_of_ble_eq_true rfl⟩) hS rc_Ain (rc_Afr hS) rc_Ain (fun E ce q9 u t H locs ht _ hp hB hz hq hS hce hcv hcl => ?_) (fun r1 u t H locs ht _ hp _ _ _ _ => absurd hp.1 (by decide))
      obtain ⟨hE1, hW2⟩ := hB
      have hW := (show rc_W Y sh rf σ' H by rw [← ht]; exact hW2)
      clear hW2
      have hE2 : E = "java/lang/IndexOutOfBoundsException" := hE1
      subst hE2
      refine vx_catch (name := "java/lang/IndexOutOfBoundsException") hown [] ⟨0, 14, 15, 52⟩ [] htab (fun z hz => nomatch hz) (by decide) (by decide) (hts _ tw_2_120) (va_Nw.use rfl (rc_E_nw hE _ nw_2_219)) hce hcv hcl ?_
      show W p l e _ s m _ below meth c H locs _ _ _ (F0 m 15 ls [.ref q9])
      refine lv_astore_n (lv' := [(3, .ref q9), (0, .ref a0), (1, .int u1), (2, .int u2)]) hx hb dL_canPour_15 rfl hl (by decide) rfl (fun ls hl => ?_)
      refine lv_bipush (v := (-77)) hx hb dL_canPour_16 (by decide) ?_
      exact rc_eiret hx hb hr hlocks hW hS (Nat.le_of_ble_eq_true rfl) (Nat.le_of_ble_eq_true rfl) rfl dL_canPour_18
    · exact (rc_lk_0 hkr).elim
set_option maxHeartbeats 4000000 in
set_option maxRecDepth 100000 in
theorem k_L_character (l : Launch) (hl9 : l.stackTraces = false) {Y : rc_Y} {sh : Nat → Nat} {rf : rc_F} (hT : rc_T Y sh rf) (z : rc_Z) (a0 : Nat) (u1 : Int32) (h0 : sh a0 = 9) (sz : Nat) (σ σ' : rc_S) (r : Int32) (hm : f_L_character rf z a0 u1 σ = some (r, σ')) : Met l yL_character (Cond.codeWith yL_character cL_character 3 (some .int) [(0, 5, 6, 52)] :: rc_big) ({ frames := 7, cells := 1, slots := 6, locals := 109 } : Room) (rc_PL Y sh rf σ sz z [.ref a0, .int u1]) (va_Qi (fun (r' : Int32) (_ : Unit) => r' = r) (fun _ t => rc_W Y sh rf σ' t.heap) (rc_A sh sz)) 1 6 (rc_A sh sz) := by
  refine va_MetW (cc := cL_character) (maxL := 3) (ret := (some .int)) (hh := [(0, 5, 6, 52)]) (by decide +kernel) rfl ?_
  intro p e s m args below meth c s₁ B hml hv
  obtain ⟨rfl, hsz, ⟨hW, hK, hE⟩, hN, hXz⟩ := hv
  have hx := B.exec
  have hb := B.bytes
  have hr := B.returns
  have hts0 : ∀ w ∈ (Cond.codeWith yL_character cL_character 3 (some .int) [(0, 5, 6, 52)] :: rc_big), w.before _ s = true := atoms_spec (ws := Cond.codeWith yL_character cL_character 3 (some .int) [(0, 5, 6, 52)] :: rc_big) B.pre
  have htab := vx_table (x := yL_character) B (hts0 _ List.mem_cons_self)
  have hts : ∀ w ∈ rc_big, w.before _ s = true := fun w h => hts0 w (List.mem_cons_of_mem _ h)
  have hown : s.vm.findClass RL = some m.cls := findClass_of_methodNamed B.named
  have hlocks := B.notSynchronized
  clear B
  subst hsz
  have hS : va_S (rc_A sh s.heap.size) s.heap s.heap [] := va_S.rf
  have hl := lv_entry ([.ref a0, .int u1]) (n := 3) (Nat.le_of_ble_eq_true rfl)
  rw [lg_entry_eq]
  generalize (lg_sl ([.ref a0, .int u1]) ++ List.replicate (3 - (lg_sl ([.ref a0, .int u1])).length) Slot.unset).toArray = ls at hl ⊢
  have hl : lv_has ls 3 [(0, .ref a0), (1, .int u1)] := hl
  refine lv_aload_n hx hb dL_character_0 rfl (lv_at hl 0 rfl) ?_
  refine lv_iload_n hx hb dL_character_1 rfl (lv_at hl 1 rfl) ?_
  unfold f_L_character at hm
  obtain ⟨k, r0, hm1, hkr⟩ := rc_tr_inv hm
  rcases hkr with ⟨hk, hrr⟩ | hkr
  · subst hk
    subst hrr
    refine vx_calli (vx_runV (As := [.int u1]) (rest := []) ⟨hx, hb, hml, hown, hts⟩ (k_X8_character l hl9 hT a0 u1 h0 s.heap.size _ _ _ _ hm1) (cwV 1 hts (rc_gV tw_6_127 tw_6_128 tw_6_129 tw_1_1 tw_6_130) rfl rfl rfl (by decide +kernel) ⟨Nat.le_of_ble_eq_true rfl, Nat.le_of_ble_eq_true rfl⟩) (rc_preV hT hW hK hE hS h0 (by decide) rfl (q := (RX8, TX8, 9)) rfl [.int u1]) rfl rfl hl.1 rfl (lv_room (Nat.le_of_ble_eq_true rfl)) dL_character_2 ⟨Nat.le_of_ble_eq_true rfl, Nat.le_of_ble_eq_true rfl⟩) hS rc_Ain (rc_Afr hS) rc_Ain (fun E ce q9 u t H locs ht _ hp _ _ _ _ _ _ _ => absurd rfl hp) (fun r1 u t H locs ht _ hp hW2 hz hq hS => ?_)
    obtain ⟨-, rfl⟩ := hp
    have hW := (show rc_W Y sh rf σ' H by rw [← ht]; exact hW2)
    clear hW2
    exact rc_eiret hx hb hr hlocks hW hS (Nat.le_of_ble_eq_true rfl) (Nat.le_of_ble_eq_true rfl) rfl dL_character_5
  · rcases rc_lk_1 hkr with ⟨hk, hrr⟩ | hkr
    · subst hk
      subst hrr
      refine vx_calli (vx_runV (As := [.int u1]) (rest := []) ⟨hx, hb, hml, hown, hts⟩ (k_X8_character l hl9 hT a0 u1 h0 s.heap.size _ _ _ _ hm1) (cwV 1 hts (rc_gV tw_6_127 tw_6_128 tw_6_129 tw_1_1 tw_6_130) rfl rfl rfl (by decide +kernel) ⟨Nat.le_of_ble_eq_true rfl, Nat.le_of_ble_eq_true rfl⟩) (rc_preV hT hW hK hE hS h0 (by decide) rfl (q := (RX8, TX8, 9)) rfl [.int u1]) rfl rfl hl.1 rfl (lv_room (Nat.le_of_ble_eq_true rfl)) dL_character_2 ⟨Nat.le_of_ble_eq_true rfl, Nat.le_of_ble_eq_true rfl⟩) hS rc_Ain (rc_Afr hS) rc_Ain (fun E ce q9 u t H locs ht _ hp hB hz hq hS hce hcv hcl => ?_) (fun r1 u t H locs ht _ hp _ _ _ _ => absurd hp.1 (by decide))
      obtain ⟨hE1, hW2⟩ := hB
      have hW := (show rc_W Y sh rf σ' H by rw [← ht]; exact hW2)
      clear hW2
      have hE2 : E = "java/lang/IndexOutOfBoundsException" := hE1
      subst hE2
      refine vx_catch (name := "java/lang/IndexOutOfBoundsException") hown [] ⟨0, 5, 6, 52⟩ [] htab (fun z hz => nomatch hz) (by decide) (by decide) (hts _ tw_2_120) (va_Nw.use rfl (rc_E_nw hE _ nw_2_219)) hce hcv hcl ?_
      show W p l e _ s m _ below meth c H locs _ _ _ (F0 m 6 ls [.ref q9])
      refine lv_astore_n (lv' := [(2, .ref q9), (0, .ref a0), (1, .int u1)]) hx hb dL_character_6 rfl hl (by decide) rfl (fun ls hl => ?_)
      refine lv_bipush (v := (-77)) hx hb dL_character_7 (by decide) ?_
      exact rc_eiret hx hb hr hlocks hW hS (Nat.le_of_ble_eq_true rfl) (Nat.le_of_ble_eq_true rfl) rfl dL_character_9
    · exact (rc_lk_0 hkr).elim
set_option maxHeartbeats 4000000 in
set_option maxRecDepth 100000 in
theorem k_L_clear (l : Launch) (hl9 : l.stackTraces = false) {Y : rc_Y} {sh : Nat → Nat} {rf : rc_F} (hT : rc_T Y sh rf) (z : rc_Z) (a0 : Nat) (u1 : Int32) (h0 : sh a0 = 9) (sz : Nat) (σ σ' : rc_S) (r : Int32) (hm : f_L_clear rf z a0 u1 σ = some (r, σ')) : Met l yL_clear (Cond.codeWith yL_clear cL_clear 3 (some .int) [(0, 5, 6, 20)] :: rc_big) ({ frames := 8, cells := 1, slots := 6, locals := 123 } : Room) (rc_PL Y sh rf σ sz z [.ref a0, .int u1]) (va_Qi (fun (r' : Int32) (_ : Unit) => r' = r) (fun _ t => rc_W Y sh rf σ' t.heap) (rc_A sh sz)) 1 6 (rc_A sh sz) := by
  refine va_MetW (cc := cL_clear) (maxL := 3) (ret := (some .int)) (hh := [(0, 5, 6, 20)]) (by decide +kernel) rfl ?_
  intro p e s m args below meth c s₁ B hml hv
  obtain ⟨rfl, hsz, ⟨hW, hK, hE⟩, hN, hXz⟩ := hv
  have hx := B.exec
  have hb := B.bytes
  have hr := B.returns
  have hts0 : ∀ w ∈ (Cond.codeWith yL_clear cL_clear 3 (some .int) [(0, 5, 6, 20)] :: rc_big), w.before _ s = true := atoms_spec (ws := Cond.codeWith yL_clear cL_clear 3 (some .int) [(0, 5, 6, 20)] :: rc_big) B.pre
  have htab := vx_table (x := yL_clear) B (hts0 _ List.mem_cons_self)
  have hts : ∀ w ∈ rc_big, w.before _ s = true := fun w h => hts0 w (List.mem_cons_of_mem _ h)
  have hown : s.vm.findClass RL = some m.cls := findClass_of_methodNamed B.named
  have hlocks := B.notSynchronized
  clear B
  subst hsz
  have hS : va_S (rc_A sh s.heap.size) s.heap s.heap [] := va_S.rf
  have hl := lv_entry ([.ref a0, .int u1]) (n := 3) (Nat.le_of_ble_eq_true rfl)
  rw [lg_entry_eq]
  generalize (lg_sl ([.ref a0, .int u1]) ++ List.replicate (3 - (lg_sl ([.ref a0, .int u1])).length) Slot.unset).toArray = ls at hl ⊢
  have hl : lv_has ls 3 [(0, .ref a0), (1, .int u1)] := hl
  refine lv_aload_n hx hb dL_clear_0 rfl (lv_at hl 0 rfl) ?_
  refine lv_iload_n hx hb dL_clear_1 rfl (lv_at hl 1 rfl) ?_
  unfold f_L_clear at hm
  obtain ⟨k, r0, hm1, hkr⟩ := rc_tr_inv hm
  rcases hkr with ⟨hk, hrr⟩ | hkr
  · subst hk
    subst hrr
    refine vx_calli (vx_runV (As := [.int u1]) (rest := []) ⟨hx, hb, hml, hown, hts⟩ (k_X8_clear l hl9 hT a0 u1 h0 s.heap.size _ _ _ _ hm1) (cwV 1 hts (rc_gV tw_4_51 tw_4_52 tw_4_53 tw_1_1 tw_4_54) rfl rfl rfl (by decide +kernel) ⟨Nat.le_of_ble_eq_true rfl, Nat.le_of_ble_eq_true rfl⟩) (rc_preV hT hW hK hE hS h0 (by decide) rfl (q := (RX8, TX8, 9)) rfl [.int u1]) rfl rfl hl.1 rfl (lv_room (Nat.le_of_ble_eq_true rfl)) dL_clear_2 ⟨Nat.le_of_ble_eq_true rfl, Nat.le_of_ble_eq_true rfl⟩) hS rc_Ain (rc_Afr hS) rc_Ain (fun E ce q9 u t H locs ht _ hp _ _ _ _ _ _ _ => absurd rfl hp) (fun r1 u t H locs ht _ hp hW2 hz hq hS => ?_)
    obtain ⟨-, rfl⟩ := hp
    have hW := (show rc_W Y sh rf σ' H by rw [← ht]; exact hW2)
    clear hW2
    exact rc_eiret hx hb hr hlocks hW hS (Nat.le_of_ble_eq_true rfl) (Nat.le_of_ble_eq_true rfl) rfl dL_clear_5
  · rcases rc_lk_1 hkr with ⟨hk, hrr⟩ | hkr
    · subst hk
      subst hrr
      refine vx_calli (vx_runV (As := [.int u1]) (rest := []) ⟨hx, hb, hml, hown, hts⟩ (k_X8_clear l hl9 hT a0 u1 h0 s.heap.size _ _ _ _ hm1) (cwV 1 hts (rc_gV tw_4_51 tw_4_52 tw_4_53 tw_1_1 tw_4_54) rfl rfl rfl (by decide +kernel) ⟨Nat.le_of_ble_eq_true rfl, Nat.le_of_ble_eq_true rfl⟩) (rc_preV hT hW hK hE hS h0 (by decide) rfl (q := (RX8, TX8, 9)) rfl [.int u1]) rfl rfl hl.1 rfl (lv_room (Nat.le_of_ble_eq_true rfl)) dL_clear_2 ⟨Nat.le_of_ble_eq_true rfl, Nat.le_of_ble_eq_true rfl⟩) hS rc_Ain (rc_Afr hS) rc_Ain (fun E ce q9 u t H locs ht _ hp hB hz hq hS hce hcv hcl => ?_) (fun r1 u t H locs ht _ hp _ _ _ _ => absurd hp.1 (by decide))
      obtain ⟨hE1, hW2⟩ := hB
      have hW := (show rc_W Y sh rf σ' H by rw [← ht]; exact hW2)
      clear hW2
      have hE2 : E = "java/lang/UnsupportedOperationException" := hE1
      subst hE2
      refine vx_catch (name := "java/lang/UnsupportedOperationException") hown [] ⟨0, 5, 6, 20⟩ [] htab (fun z hz => nomatch hz) (by decide) (by decide) (hts _ tw_3_135) (va_Nw.use rfl (rc_E_nw hE _ nw_3_198)) hce hcv hcl ?_
      show W p l e _ s m _ below meth c H locs _ _ _ (F0 m 6 ls [.ref q9])
      refine lv_astore_n (lv' := [(2, .ref q9), (0, .ref a0), (1, .int u1)]) hx hb dL_clear_6 rfl hl (by decide) rfl (fun ls hl => ?_)
      refine lv_bipush (v := (-76)) hx hb dL_clear_7 (by decide) ?_
      exact rc_eiret hx hb hr hlocks hW hS (Nat.le_of_ble_eq_true rfl) (Nat.le_of_ble_eq_true rfl) rfl dL_clear_9
    · exact (rc_lk_0 hkr).elim
set_option maxHeartbeats 4000000 in
set_option maxRecDepth 100000 in
theorem k_L_commands (l : Launch) (hl9 : l.stackTraces = false) {Y : rc_Y} {sh : Nat → Nat} {rf : rc_F} (hT : rc_T Y sh rf) (z : rc_Z) (a0 : Nat) (h0 : sh a0 = 9) (sz : Nat) (σ σ' : rc_S) (r : Int32) (hm : f_L_commands rf z a0 σ = some (r, σ')) : Met l yL_commands (Cond.codeWith yL_commands cL_commands 2 (some .int) [(0, 4, 5, 54), (0, 4, 9, 20)] :: rc_big) ({ frames := 8, cells := 1, slots := 6, locals := 177 } : Room) (rc_PL Y sh rf σ sz z [.ref a0]) (va_Qi (fun (r' : Int32) (_ : Unit) => r' = r) (fun _ t => rc_W Y sh rf σ' t.heap) (rc_A sh sz)) 1 6 (rc_A sh sz) := by
  refine va_MetW (cc := cL_commands) (maxL := 2) (ret := (some .int)) (hh := [(0, 4, 5, 54), (0, 4, 9, 20)]) (by decide +kernel) rfl ?_
  intro p e s m args below meth c s₁ B hml hv
  obtain ⟨rfl, hsz, ⟨hW, hK, hE⟩, hN, hXz⟩ := hv
  have hx := B.exec
  have hb := B.bytes
  have hr := B.returns
  have hts0 : ∀ w ∈ (Cond.codeWith yL_commands cL_commands 2 (some .int) [(0, 4, 5, 54), (0, 4, 9, 20)] :: rc_big), w.before _ s = true := atoms_spec (ws := Cond.codeWith yL_commands cL_commands 2 (some .int) [(0, 4, 5, 54), (0, 4, 9, 20)] :: rc_big) B.pre
  have htab := vx_table (x := yL_commands) B (hts0 _ List.mem_cons_self)
  have hts : ∀ w ∈ rc_big, w.before _ s = true := fun w h => hts0 w (List.mem_cons_of_mem _ h)
  have hown : s.vm.findClass RL = some m.cls := findClass_of_methodNamed B.named
  have hlocks := B.notSynchronized
  clear B
  subst hsz
  have hS : va_S (rc_A sh s.heap.size) s.heap s.heap [] := va_S.rf
  have hl := lv_entry ([.ref a0]) (n := 2) (Nat.le_of_ble_eq_true rfl)
  rw [lg_entry_eq]
  generalize (lg_sl ([.ref a0]) ++ List.replicate (2 - (lg_sl ([.ref a0])).length) Slot.unset).toArray = ls at hl ⊢
  have hl : lv_has ls 2 [(0, .ref a0)] := hl
  refine lv_aload_n hx hb dL_commands_0 rfl (lv_at hl 0 rfl) ?_
  unfold f_L_commands at hm
  obtain ⟨k, r0, hm1, hkr⟩ := rc_tr_inv hm
  rcases hkr with ⟨hk, hrr⟩ | hkr
  · subst hk
    subst hrr
    refine vx_calli (vx_runV (As := []) (rest := []) ⟨hx, hb, hml, hown, hts⟩ (k_X8_commands l hl9 hT a0 h0 s.heap.size _ _ _ _ hm1) (cwV 0 hts (rc_gV tw_5_170 tw_5_171 tw_5_172 tw_1_1 tw_5_173) rfl rfl rfl (by decide +kernel) ⟨Nat.le_of_ble_eq_true rfl, Nat.le_of_ble_eq_true rfl⟩) (rc_preV hT hW hK hE hS h0 (by decide) rfl (q := (RX8, TX8, 9)) rfl []) rfl rfl hl.1 rfl (lv_room (Nat.le_of_ble_eq_true rfl)) dL_commands_1 ⟨Nat.le_of_ble_eq_true rfl, Nat.le_of_ble_eq_true rfl⟩) hS rc_Ain (rc_Afr hS) rc_Ain (fun E ce q9 u t H locs ht _ hp _ _ _ _ _ _ _ => absurd rfl hp) (fun r1 u t H locs ht _ hp hW2 hz hq hS => ?_)
    obtain ⟨-, rfl⟩ := hp
    have hW := (show rc_W Y sh rf σ' H by rw [← ht]; exact hW2)
    clear hW2
    exact rc_eiret hx hb hr hlocks hW hS (Nat.le_of_ble_eq_true rfl) (Nat.le_of_ble_eq_true rfl) rfl dL_commands_4
  · rcases rc_lk_1 hkr with ⟨hk, hrr⟩ | hkr
    · subst hk
      subst hrr
      refine vx_calli (vx_runV (As := []) (rest := []) ⟨hx, hb, hml, hown, hts⟩ (k_X8_commands l hl9 hT a0 h0 s.heap.size _ _ _ _ hm1) (cwV 0 hts (rc_gV tw_5_170 tw_5_171 tw_5_172 tw_1_1 tw_5_173) rfl rfl rfl (by decide +kernel) ⟨Nat.le_of_ble_eq_true rfl, Nat.le_of_ble_eq_true rfl⟩) (rc_preV hT hW hK hE hS h0 (by decide) rfl (q := (RX8, TX8, 9)) rfl []) rfl rfl hl.1 rfl (lv_room (Nat.le_of_ble_eq_true rfl)) dL_commands_1 ⟨Nat.le_of_ble_eq_true rfl, Nat.le_of_ble_eq_true rfl⟩) hS rc_Ain (rc_Afr hS) rc_Ain (fun E ce q9 u t H locs ht _ hp hB hz hq hS hce hcv hcl => ?_) (fun r1 u t H locs ht _ hp _ _ _ _ => absurd hp.1 (by decide))
      obtain ⟨hE1, hW2⟩ := hB
      have hW := (show rc_W Y sh rf σ' H by rw [← ht]; exact hW2)
      clear hW2
      have hE2 : E = "java/lang/IllegalArgumentException" := hE1
      subst hE2
      refine vx_catch (name := "java/lang/IllegalArgumentException") hown [] ⟨0, 4, 5, 54⟩ [⟨0, 4, 9, 20⟩] htab (fun z hz => nomatch hz) (by decide) (by decide) (hts _ tw_3_71) (va_Nw.use rfl (rc_E_nw hE _ nw_3_81)) hce hcv hcl ?_
      show W p l e _ s m _ below meth c H locs _ _ _ (F0 m 5 ls [.ref q9])
      refine lv_astore_n (lv' := [(1, .ref q9), (0, .ref a0)]) hx hb dL_commands_5 rfl hl (by decide) rfl (fun ls hl => ?_)
      refine lv_bipush (v := (-78)) hx hb dL_commands_6 (by decide) ?_
      exact rc_eiret hx hb hr hlocks hW hS (Nat.le_of_ble_eq_true rfl) (Nat.le_of_ble_eq_true rfl) rfl dL_commands_8
    · rcases rc_lk_1 hkr with ⟨hk, hrr⟩ | hkr
      · subst hk
        subst hrr
        refine vx_calli (vx_runV (As := []) (rest := []) ⟨hx, hb, hml, hown, hts⟩ (k_X8_commands l hl9 hT a0 h0 s.heap.size _ _ _ _ hm1) (cwV 0 hts (rc_gV tw_5_170 tw_5_171 tw_5_172 tw_1_1 tw_5_173) rfl rfl rfl (by decide +kernel) ⟨Nat.le_of_ble_eq_true rfl, Nat.le_of_ble_eq_true rfl⟩) (rc_preV hT hW hK hE hS h0 (by decide) rfl (q := (RX8, TX8, 9)) rfl []) rfl rfl hl.1 rfl (lv_room (Nat.le_of_ble_eq_true rfl)) dL_commands_1 ⟨Nat.le_of_ble_eq_true rfl, Nat.le_of_ble_eq_true rfl⟩) hS rc_Ain (rc_Afr hS) rc_Ain (fun E ce q9 u t H locs ht _ hp hB hz hq hS hce hcv hcl => ?_) (fun r1 u t H locs ht _ hp _ _ _ _ => absurd hp.1 (by decide))
        obtain ⟨hE1, hW2⟩ := hB
        have hW := (show rc_W Y sh rf σ' H by rw [← ht]; exact hW2)
        clear hW2
        have hE2 : E = "java/lang/UnsupportedOperationException" := hE1
        subst hE2
        refine vx_catch (name := "java/lang/UnsupportedOperationException") hown [⟨0, 4, 5, 54⟩] ⟨0, 4, 9, 20⟩ [] htab (List.forall_mem_cons.mpr ⟨Or.inr ⟨by decide, "java/lang/IllegalArgumentException", hts _ tw_3_71, hN.2.2.1⟩, fun _ h => nomatch h⟩) (by decide) (by decide) (hts _ tw_3_135) (va_Nw.use rfl (rc_E_nw hE _ nw_3_198)) hce hcv hcl ?_
        show W p l e _ s m _ below meth c H locs _ _ _ (F0 m 9 ls [.ref q9])
        refine lv_astore_n (lv' := [(1, .ref q9), (0, .ref a0)]) hx hb dL_commands_9 rfl hl (by decide) rfl (fun ls hl => ?_)
        refine lv_bipush (v := (-76)) hx hb dL_commands_10 (by decide) ?_
        exact rc_eiret hx hb hr hlocks hW hS (Nat.le_of_ble_eq_true rfl) (Nat.le_of_ble_eq_true rfl) rfl dL_commands_12
      · exact (rc_lk_0 hkr).elim
set_option maxHeartbeats 4000000 in
set_option maxRecDepth 100000 in
theorem k_L_drink (l : Launch) (hl9 : l.stackTraces = false) {Y : rc_Y} {sh : Nat → Nat} {rf : rc_F} (hT : rc_T Y sh rf) (z : rc_Z) (a0 : Nat) (u1 : Int32) (h0 : sh a0 = 9) (sz : Nat) (σ σ' : rc_S) (r : Int32) (hm : f_L_drink rf z a0 u1 σ = some (r, σ')) : Met l yL_drink (Cond.codeWith yL_drink cL_drink 3 (some .int) [(0, 5, 6, 20)] :: rc_big) ({ frames := 8, cells := 1, slots := 6, locals := 151 } : Room) (rc_PL Y sh rf σ sz z [.ref a0, .int u1]) (va_Qi (fun (r' : Int32) (_ : Unit) => r' = r) (fun _ t => rc_W Y sh rf σ' t.heap) (rc_A sh sz)) 1 6 (rc_A sh sz) := by
  refine va_MetW (cc := cL_drink) (maxL := 3) (ret := (some .int)) (hh := [(0, 5, 6, 20)]) (by decide +kernel) rfl ?_
  intro p e s m args below meth c s₁ B hml hv
  obtain ⟨rfl, hsz, ⟨hW, hK, hE⟩, hN, hXz⟩ := hv
  have hx := B.exec
  have hb := B.bytes
  have hr := B.returns
  have hts0 : ∀ w ∈ (Cond.codeWith yL_drink cL_drink 3 (some .int) [(0, 5, 6, 20)] :: rc_big), w.before _ s = true := atoms_spec (ws := Cond.codeWith yL_drink cL_drink 3 (some .int) [(0, 5, 6, 20)] :: rc_big) B.pre
  have htab := vx_table (x := yL_drink) B (hts0 _ List.mem_cons_self)
  have hts : ∀ w ∈ rc_big, w.before _ s = true := fun w h => hts0 w (List.mem_cons_of_mem _ h)
  have hown : s.vm.findClass RL = some m.cls := findClass_of_methodNamed B.named
  have hlocks := B.notSynchronized
  clear B
  subst hsz
  have hS : va_S (rc_A sh s.heap.size) s.heap s.heap [] := va_S.rf
  have hl := lv_entry ([.ref a0, .int u1]) (n := 3) (Nat.le_of_ble_eq_true rfl)
  rw [lg_entry_eq]
  generalize (lg_sl ([.ref a0, .int u1]) ++ List.replicate (3 - (lg_sl ([.ref a0, .int u1])).length) Slot.unset).toArray = ls at hl ⊢
  have hl : lv_has ls 3 [(0, .ref a0), (1, .int u1)] := hl
  refine lv_aload_n hx hb dL_drink_0 rfl (lv_at hl 0 rfl) ?_
  refine lv_iload_n hx hb dL_drink_1 rfl (lv_at hl 1 rfl) ?_
  unfold f_L_drink at hm
  obtain ⟨k, r0, hm1, hkr⟩ := rc_tr_inv hm
  rcases hkr with ⟨hk, hrr⟩ | hkr
  · subst hk
    subst hrr
    refine vx_calli (vx_runV (As := [.int u1]) (rest := []) ⟨hx, hb, hml, hown, hts⟩ (k_X8_drink l hl9 hT a0 u1 h0 s.heap.size _ _ _ _ hm1) (cwV 1 hts (rc_gV tw_4_94 tw_4_95 tw_4_96 tw_1_1 tw_4_97) rfl rfl rfl (by decide +kernel) ⟨Nat.le_of_ble_eq_true rfl, Nat.le_of_ble_eq_true rfl⟩) (rc_preV hT hW hK hE hS h0 (by decide) rfl (q := (RX8, TX8, 9)) rfl [.int u1]) rfl rfl hl.1 rfl (lv_room (Nat.le_of_ble_eq_true rfl)) dL_drink_2 ⟨Nat.le_of_ble_eq_true rfl, Nat.le_of_ble_eq_true rfl⟩) hS rc_Ain (rc_Afr hS) rc_Ain (fun E ce q9 u t H locs ht _ hp _ _ _ _ _ _ _ => absurd rfl hp) (fun r1 u t H locs ht _ hp hW2 hz hq hS => ?_)
    obtain ⟨-, rfl⟩ := hp
    have hW := (show rc_W Y sh rf σ' H by rw [← ht]; exact hW2)
    clear hW2
    exact rc_eiret hx hb hr hlocks hW hS (Nat.le_of_ble_eq_true rfl) (Nat.le_of_ble_eq_true rfl) rfl dL_drink_5
  · rcases rc_lk_1 hkr with ⟨hk, hrr⟩ | hkr
    · subst hk
      subst hrr
      refine vx_calli (vx_runV (As := [.int u1]) (rest := []) ⟨hx, hb, hml, hown, hts⟩ (k_X8_drink l hl9 hT a0 u1 h0 s.heap.size _ _ _ _ hm1) (cwV 1 hts (rc_gV tw_4_94 tw_4_95 tw_4_96 tw_1_1 tw_4_97) rfl rfl rfl (by decide +kernel) ⟨Nat.le_of_ble_eq_true rfl, Nat.le_of_ble_eq_true rfl⟩) (rc_preV hT hW hK hE hS h0 (by decide) rfl (q := (RX8, TX8, 9)) rfl [.int u1]) rfl rfl hl.1 rfl (lv_room (Nat.le_of_ble_eq_true rfl)) dL_drink_2 ⟨Nat.le_of_ble_eq_true rfl, Nat.le_of_ble_eq_true rfl⟩) hS rc_Ain (rc_Afr hS) rc_Ain (fun E ce q9 u t H locs ht _ hp hB hz hq hS hce hcv hcl => ?_) (fun r1 u t H locs ht _ hp _ _ _ _ => absurd hp.1 (by decide))
      obtain ⟨hE1, hW2⟩ := hB
      have hW := (show rc_W Y sh rf σ' H by rw [← ht]; exact hW2)
      clear hW2
      have hE2 : E = "java/lang/UnsupportedOperationException" := hE1
      subst hE2
      refine vx_catch (name := "java/lang/UnsupportedOperationException") hown [] ⟨0, 5, 6, 20⟩ [] htab (fun z hz => nomatch hz) (by decide) (by decide) (hts _ tw_3_135) (va_Nw.use rfl (rc_E_nw hE _ nw_3_198)) hce hcv hcl ?_
      show W p l e _ s m _ below meth c H locs _ _ _ (F0 m 6 ls [.ref q9])
      refine lv_astore_n (lv' := [(2, .ref q9), (0, .ref a0), (1, .int u1)]) hx hb dL_drink_6 rfl hl (by decide) rfl (fun ls hl => ?_)
      refine lv_bipush (v := (-76)) hx hb dL_drink_7 (by decide) ?_
      exact rc_eiret hx hb hr hlocks hW hS (Nat.le_of_ble_eq_true rfl) (Nat.le_of_ble_eq_true rfl) rfl dL_drink_9
    · exact (rc_lk_0 hkr).elim
set_option maxHeartbeats 4000000 in
set_option maxRecDepth 100000 in
theorem k_L_hail (l : Launch) (hl9 : l.stackTraces = false) {Y : rc_Y} {sh : Nat → Nat} {rf : rc_F} (hT : rc_T Y sh rf) (z : rc_Z) (a0 : Nat) (u1 : Int32) (u2 : Int32) (h0 : sh a0 = 9) (sz : Nat) (σ σ' : rc_S) (r : Int32) (hm : f_L_hail rf z a0 u1 u2 σ = some (r, σ')) : Met l yL_hail (Cond.codeWith yL_hail cL_hail 4 (some .int) [(0, 6, 7, 20)] :: rc_big) ({ frames := 8, cells := 1, slots := 6, locals := 124 } : Room) (rc_PL Y sh rf σ sz z [.ref a0, .int u1, .int u2]) (va_Qi (fun (r' : Int32) (_ : Unit) => r' = r) (fun _ t => rc_W Y sh rf σ' t.heap) (rc_A sh sz)) 1 6 (rc_A sh sz) := by
  refine va_MetW (cc := cL_hail) (maxL := 4) (ret := (some .int)) (hh := [(0, 6, 7, 20)]) (by decide +kernel) rfl ?_
  intro p e s m args below meth c s₁ B hml hv
  obtain ⟨rfl, hsz, ⟨hW, hK, hE⟩, hN, hXz⟩ := hv
  have hx := B.exec
  have hb := B.bytes
  have hr := B.returns
  have hts0 : ∀ w ∈ (Cond.codeWith yL_hail cL_hail 4 (some .int) [(0, 6, 7, 20)] :: rc_big), w.before _ s = true := atoms_spec (ws := Cond.codeWith yL_hail cL_hail 4 (some .int) [(0, 6, 7, 20)] :: rc_big) B.pre
  have htab := vx_table (x := yL_hail) B (hts0 _ List.mem_cons_self)
  have hts : ∀ w ∈ rc_big, w.before _ s = true := fun w h => hts0 w (List.mem_cons_of_mem _ h)
  have hown : s.vm.findClass RL = some m.cls := findClass_of_methodNamed B.named
  have hlocks := B.notSynchronized
  clear B
  subst hsz
  have hS : va_S (rc_A sh s.heap.size) s.heap s.heap [] := va_S.rf
  have hl := lv_entry ([.ref a0, .int u1, .int u2]) (n := 4) (Nat.le_of_ble_eq_true rfl)
  rw [lg_entry_eq]
  generalize (lg_sl ([.ref a0, .int u1, .int u2]) ++ List.replicate (4 - (lg_sl ([.ref a0, .int u1, .int u2])).length) Slot.unset).toArray = ls at hl ⊢
  have hl : lv_has ls 4 [(0, .ref a0), (1, .int u1), (2, .int u2)] := hl
  refine lv_aload_n hx hb dL_hail_0 rfl (lv_at hl 0 rfl) ?_
  refine lv_iload_n hx hb dL_hail_1 rfl (lv_at hl 1 rfl) ?_
  refine lv_iload_n hx hb dL_hail_2 rfl (lv_at hl 2 rfl) ?_
  unfold f_L_hail at hm
  obtain ⟨k, r0, hm1, hkr⟩ := rc_tr_inv hm
  rcases hkr with ⟨hk, hrr⟩ | hkr
  · subst hk
    subst hrr
    refine vx_calli (vx_runV (As := [.int u1, .int u2]) (rest := []) ⟨hx, hb, hml, hown, hts⟩ (k_X8_hail l hl9 hT a0 u1 u2 h0 s.heap.size _ _ _ _ hm1) (cwV 2 hts (rc_gV tw_4_78 tw_4_79 tw_4_80 tw_1_1 tw_4_81) rfl rfl rfl (by decide +kernel) ⟨Nat.le_of_ble_eq_true rfl, Nat.le_of_ble_eq_true rfl⟩) (rc_preV hT hW hK hE hS h0 (by decide) rfl (q := (RX8, TX8, 9)) rfl [.int u1, .int u2]) rfl rfl hl.1 rfl (lv_room (Nat.le_of_ble_eq_true rfl)) dL_hail_3 ⟨Nat.le_of_ble_eq_true rfl, Nat.le_of_ble_eq_true rfl⟩) hS rc_Ain (rc_Afr hS) rc_Ain (fun E ce q9 u t H locs ht _ hp _ _ _ _ _ _ _ => absurd rfl hp) (fun r1 u t H locs ht _ hp hW2 hz hq hS => ?_)
    obtain ⟨-, rfl⟩ := hp
    have hW := (show rc_W Y sh rf σ' H by rw [← ht]; exact hW2)
    clear hW2
    exact rc_eiret hx hb hr hlocks hW hS (Nat.le_of_ble_eq_true rfl) (Nat.le_of_ble_eq_true rfl) rfl dL_hail_6
  · rcases rc_lk_1 hkr with ⟨hk, hrr⟩ | hkr
    · subst hk
      subst hrr
      refine vx_calli (vx_runV (As := [.int u1, .int u2]) (rest := []) ⟨hx, hb, hml, hown, hts⟩ (k_X8_hail l hl9 hT a0 u1 u2 h0 s.heap.size _ _ _ _ hm1) (cwV 2 hts (rc_gV tw_4_78 tw_4_79 tw_4_80 tw_1_1 tw_4_81) rfl rfl rfl (by decide +kernel) ⟨Nat.le_of_ble_eq_true rfl, Nat.le_of_ble_eq_true rfl⟩) (rc_preV hT hW hK hE hS h0 (by decide) rfl (q := (RX8, TX8, 9)) rfl [.int u1, .int u2]) rfl rfl hl.1 rfl (lv_room (Nat.le_of_ble_eq_true rfl)) dL_hail_3 ⟨Nat.le_of_ble_eq_true rfl, Nat.le_of_ble_eq_true rfl⟩) hS rc_Ain (rc_Afr hS) rc_Ain (fun E ce q9 u t H locs ht _ hp hB hz hq hS hce hcv hcl => ?_) (fun r1 u t H locs ht _ hp _ _ _ _ => absurd hp.1 (by decide))
      obtain ⟨hE1, hW2⟩ := hB
      have hW := (show rc_W Y sh rf σ' H by rw [← ht]; exact hW2)
      clear hW2
      have hE2 : E = "java/lang/UnsupportedOperationException" := hE1
      subst hE2
      refine vx_catch (name := "java/lang/UnsupportedOperationException") hown [] ⟨0, 6, 7, 20⟩ [] htab (fun z hz => nomatch hz) (by decide) (by decide) (hts _ tw_3_135) (va_Nw.use rfl (rc_E_nw hE _ nw_3_198)) hce hcv hcl ?_
      show W p l e _ s m _ below meth c H locs _ _ _ (F0 m 7 ls [.ref q9])
      refine lv_astore_n (lv' := [(3, .ref q9), (0, .ref a0), (1, .int u1), (2, .int u2)]) hx hb dL_hail_7 rfl hl (by decide) rfl (fun ls hl => ?_)
      refine lv_bipush (v := (-76)) hx hb dL_hail_8 (by decide) ?_
      exact rc_eiret hx hb hr hlocks hW hS (Nat.le_of_ble_eq_true rfl) (Nat.le_of_ble_eq_true rfl) rfl dL_hail_10
    · exact (rc_lk_0 hkr).elim
set_option maxHeartbeats 4000000 in
set_option maxRecDepth 100000 in
theorem k_L_hailShare (l : Launch) (hl9 : l.stackTraces = false) {Y : rc_Y} {sh : Nat → Nat} {rf : rc_F} (hT : rc_T Y sh rf) (z : rc_Z) (a0 : Nat) (h0 : sh a0 = 9) (sz : Nat) (σ σ' : rc_S) (r : UInt32) (hm : f_L_hailShare rf z a0 σ = some (r, σ')) : Met l yL_hailShare (Cond.codeWith yL_hailShare cL_hailShare 2 (some .float) [(0, 4, 5, 125)] :: rc_big) ({ frames := 7, cells := 1, slots := 6, locals := 102 } : Room) (rc_PL Y sh rf σ sz z [.ref a0]) (va_Qf (fun (r' : UInt32) (_ : Unit) => r' = r) (fun _ t => rc_W Y sh rf σ' t.heap) (rc_A sh sz)) 1 6 (rc_A sh sz) := by
  refine va_MetW (cc := cL_hailShare) (maxL := 2) (ret := (some .float)) (hh := [(0, 4, 5, 125)]) (by decide +kernel) rfl ?_
  intro p e s m args below meth c s₁ B hml hv
  obtain ⟨rfl, hsz, ⟨hW, hK, hE⟩, hN, hXz⟩ := hv
  have hx := B.exec
  have hb := B.bytes
  have hr := B.returns
  have hts0 : ∀ w ∈ (Cond.codeWith yL_hailShare cL_hailShare 2 (some .float) [(0, 4, 5, 125)] :: rc_big), w.before _ s = true := atoms_spec (ws := Cond.codeWith yL_hailShare cL_hailShare 2 (some .float) [(0, 4, 5, 125)] :: rc_big) B.pre
  have htab := vx_table (x := yL_hailShare) B (hts0 _ List.mem_cons_self)
  have hts : ∀ w ∈ rc_big, w.before _ s = true := fun w h => hts0 w (List.mem_cons_of_mem _ h)
  have hown : s.vm.findClass RL = some m.cls := findClass_of_methodNamed B.named
  have hlocks := B.notSynchronized
  clear B
  subst hsz
  have hS : va_S (rc_A sh s.heap.size) s.heap s.heap [] := va_S.rf
  have hl := lv_entry ([.ref a0]) (n := 2) (Nat.le_of_ble_eq_true rfl)
  rw [lg_entry_eq]
  generalize (lg_sl ([.ref a0]) ++ List.replicate (2 - (lg_sl ([.ref a0])).length) Slot.unset).toArray = ls at hl ⊢
  have hl : lv_has ls 2 [(0, .ref a0)] := hl
  refine lv_aload_n hx hb dL_hailShare_0 rfl (lv_at hl 0 rfl) ?_
  unfold f_L_hailShare at hm
  obtain ⟨k, r0, hm1, hkr⟩ := rc_td_inv hm
  rcases hkr with ⟨hk, hrr⟩ | ⟨hk, hrr⟩
  · subst hk
    subst hrr
    refine vx_callf (vx_runV (As := []) (rest := []) ⟨hx, hb, hml, hown, hts⟩ (k_X8_hailShare l hl9 hT a0 h0 s.heap.size _ _ _ _ hm1) (cwV 0 hts (rc_gV tw_7_59 tw_7_60 tw_7_61 tw_1_1 tw_7_62) rfl rfl rfl (by decide +kernel) ⟨Nat.le_of_ble_eq_true rfl, Nat.le_of_ble_eq_true rfl⟩) (rc_preV hT hW hK hE hS h0 (by decide) rfl (q := (RX8, TX8, 9)) rfl []) rfl rfl hl.1 rfl (lv_room (Nat.le_of_ble_eq_true rfl)) dL_hailShare_1 ⟨Nat.le_of_ble_eq_true rfl, Nat.le_of_ble_eq_true rfl⟩) hS rc_Ain (rc_Afr hS) rc_Ain (fun E ce q9 u t H locs ht _ hp _ _ _ _ _ _ _ => absurd rfl hp) (fun r1 u t H locs ht _ hp hW2 hz hq hS => ?_)
    obtain ⟨-, rfl⟩ := hp
    have hW := (show rc_W Y sh rf σ' H by rw [← ht]; exact hW2)
    clear hW2
    exact rc_efret hx hb hr hlocks hW hS (Nat.le_of_ble_eq_true rfl) (Nat.le_of_ble_eq_true rfl) rfl dL_hailShare_4
  · subst hk
    subst hrr
    refine vx_callf (vx_runV (As := []) (rest := []) ⟨hx, hb, hml, hown, hts⟩ (k_X8_hailShare l hl9 hT a0 h0 s.heap.size _ _ _ _ hm1) (cwV 0 hts (rc_gV tw_7_59 tw_7_60 tw_7_61 tw_1_1 tw_7_62) rfl rfl rfl (by decide +kernel) ⟨Nat.le_of_ble_eq_true rfl, Nat.le_of_ble_eq_true rfl⟩) (rc_preV hT hW hK hE hS h0 (by decide) rfl (q := (RX8, TX8, 9)) rfl []) rfl rfl hl.1 rfl (lv_room (Nat.le_of_ble_eq_true rfl)) dL_hailShare_1 ⟨Nat.le_of_ble_eq_true rfl, Nat.le_of_ble_eq_true rfl⟩) hS rc_Ain (rc_Afr hS) rc_Ain (fun E ce q9 u t H locs ht _ hp hB hz hq hS hce hcv hcl => ?_) (fun r1 u t H locs ht _ hp _ _ _ _ => absurd hp.1 (by decide))
    obtain ⟨hE1, hW2⟩ := hB
    have hW := (show rc_W Y sh rf σ' H by rw [← ht]; exact hW2)
    clear hW2
    have hE2 : E = "java/lang/ArithmeticException" := hE1
    subst hE2
    refine vx_catch (name := "java/lang/ArithmeticException") hown [] ⟨0, 4, 5, 125⟩ [] htab (fun z hz => nomatch hz) (by decide) (by decide) (hts _ tw_7_32) (va_Nw.use rfl (rc_E_nw hE _ nw_7_44)) hce hcv hcl ?_
    show W p l e _ s m _ below meth c H locs _ _ _ (F0 m 5 ls [.ref q9])
    refine lv_astore_n (lv' := [(1, .ref q9), (0, .ref a0)]) hx hb dL_hailShare_5 rfl hl (by decide) rfl (fun ls hl => ?_)
    refine lv_ldcf hx hb hown (hts _ tw_7_67) dL_hailShare_6 ?_
    exact rc_efret hx hb hr hlocks hW hS (Nat.le_of_ble_eq_true rfl) (Nat.le_of_ble_eq_true rfl) rfl dL_hailShare_8
set_option maxHeartbeats 4000000 in
set_option maxRecDepth 100000 in
theorem k_L_hidden (l : Launch) (hl9 : l.stackTraces = false) {Y : rc_Y} {sh : Nat → Nat} {rf : rc_F} (hT : rc_T Y sh rf) (z : rc_Z) (a0 : Nat) (u1 : Int32) (h0 : sh a0 = 9) (sz : Nat) (σ σ' : rc_S) (r : Int32) (hm : f_L_hidden rf z a0 u1 σ = some (r, σ')) : Met l yL_hidden (Cond.codeWith yL_hidden cL_hidden 3 (some .int) [(0, 5, 6, 52), (0, 5, 10, 62)] :: rc_big) ({ frames := 10, cells := 3, slots := 18, locals := 169 } : Room) (rc_PL Y sh rf σ sz z [.ref a0, .int u1]) (va_Qi (fun (r' : Int32) (_ : Unit) => r' = r) (fun _ t => rc_W Y sh rf σ' t.heap) (rc_A sh sz)) 3 18 (rc_A sh sz) := by
  refine va_MetW (cc := cL_hidden) (maxL := 3) (ret := (some .int)) (hh := [(0, 5, 6, 52), (0, 5, 10, 62)]) (by decide +kernel) rfl ?_
  intro p e s m args below meth c s₁ B hml hv
  obtain ⟨rfl, hsz, ⟨hW, hK, hE⟩, hN, hXz⟩ := hv
  have hx := B.exec
  have hb := B.bytes
  have hr := B.returns
  have hts0 : ∀ w ∈ (Cond.codeWith yL_hidden cL_hidden 3 (some .int) [(0, 5, 6, 52), (0, 5, 10, 62)] :: rc_big), w.before _ s = true := atoms_spec (ws := Cond.codeWith yL_hidden cL_hidden 3 (some .int) [(0, 5, 6, 52), (0, 5, 10, 62)] :: rc_big) B.pre
  have htab := vx_table (x := yL_hidden) B (hts0 _ List.mem_cons_self)
  have hts : ∀ w ∈ rc_big, w.before _ s = true := fun w h => hts0 w (List.mem_cons_of_mem _ h)
  have hown : s.vm.findClass RL = some m.cls := findClass_of_methodNamed B.named
  have hlocks := B.notSynchronized
  clear B
  subst hsz
  have hS : va_S (rc_A sh s.heap.size) s.heap s.heap [] := va_S.rf
  have hl := lv_entry ([.ref a0, .int u1]) (n := 3) (Nat.le_of_ble_eq_true rfl)
  rw [lg_entry_eq]
  generalize (lg_sl ([.ref a0, .int u1]) ++ List.replicate (3 - (lg_sl ([.ref a0, .int u1])).length) Slot.unset).toArray = ls at hl ⊢
  have hl : lv_has ls 3 [(0, .ref a0), (1, .int u1)] := hl
  refine lv_aload_n hx hb dL_hidden_0 rfl (lv_at hl 0 rfl) ?_
  refine lv_iload_n hx hb dL_hidden_1 rfl (lv_at hl 1 rfl) ?_
  unfold f_L_hidden at hm
  obtain ⟨k, r0, hm1, hkr⟩ := rc_tr_inv hm
  rcases hkr with ⟨hk, hrr⟩ | hkr
  · subst hk
    subst hrr
    refine vx_calli (vx_runV (As := [.int u1]) (rest := []) ⟨hx, hb, hml, hown, hts⟩ (k_X8_hidden l hl9 hT a0 u1 h0 s.heap.size _ _ _ _ hm1) (cwV 1 hts (rc_gV tw_6_161 tw_6_162 tw_6_163 tw_1_1 tw_6_164) rfl rfl rfl (by decide +kernel) ⟨Nat.le_of_ble_eq_true rfl, Nat.le_of_ble_eq_true rfl⟩) (rc_preV hT hW hK hE hS h0 (by decide) rfl (q := (RX8, TX8, 9)) rfl [.int u1]) rfl rfl hl.1 rfl (lv_room (Nat.le_of_ble_eq_true rfl)) dL_hidden_2 ⟨Nat.le_of_ble_eq_true rfl, Nat.le_of_ble_eq_true rfl⟩) hS rc_Ain (rc_Afr hS) rc_Ain (fun E ce q9 u t H locs ht _ hp _ _ _ _ _ _ _ => absurd rfl hp) (fun r1 u t H locs ht _ hp hW2 hz hq hS => ?_)
    obtain ⟨-, rfl⟩ := hp
    have hW := (show rc_W Y sh rf σ' H by rw [← ht]; exact hW2)
    clear hW2
    exact rc_eiret hx hb hr hlocks hW hS (Nat.le_of_ble_eq_true rfl) (Nat.le_of_ble_eq_true rfl) rfl dL_hidden_5
  · rcases rc_lk_1 hkr with ⟨hk, hrr⟩ | hkr
    · subst hk
      subst hrr
      refine vx_calli (vx_runV (As := [.int u1]) (rest := []) ⟨hx, hb, hml, hown, hts⟩ (k_X8_hidden l hl9 hT a0 u1 h0 s.heap.size _ _ _ _ hm1) (cwV 1 hts (rc_gV tw_6_161 tw_6_162 tw_6_163 tw_1_1 tw_6_164) rfl rfl rfl (by decide +kernel) ⟨Nat.le_of_ble_eq_true rfl, Nat.le_of_ble_eq_true rfl⟩) (rc_preV hT hW hK hE hS h0 (by decide) rfl (q := (RX8, TX8, 9)) rfl [.int u1]) rfl rfl hl.1 rfl (lv_room (Nat.le_of_ble_eq_true rfl)) dL_hidden_2 ⟨Nat.le_of_ble_eq_true rfl, Nat.le_of_ble_eq_true rfl⟩) hS rc_Ain (rc_Afr hS) rc_Ain (fun E ce q9 u t H locs ht _ hp hB hz hq hS hce hcv hcl => ?_) (fun r1 u t H locs ht _ hp _ _ _ _ => absurd hp.1 (by decide))
      obtain ⟨hE1, hW2⟩ := hB
      have hW := (show rc_W Y sh rf σ' H by rw [← ht]; exact hW2)
      clear hW2
      have hE2 : E = "java/lang/IndexOutOfBoundsException" := hE1
      subst hE2
      refine vx_catch (name := "java/lang/IndexOutOfBoundsException") hown [] ⟨0, 5, 6, 52⟩ [⟨0, 5, 10, 62⟩] htab (fun z hz => nomatch hz) (by decide) (by decide) (hts _ tw_2_120) (va_Nw.use rfl (rc_E_nw hE _ nw_2_219)) hce hcv hcl ?_
      show W p l e _ s m _ below meth c H locs _ _ _ (F0 m 6 ls [.ref q9])
      refine lv_astore_n (lv' := [(2, .ref q9), (0, .ref a0), (1, .int u1)]) hx hb dL_hidden_6 rfl hl (by decide) rfl (fun ls hl => ?_)
      refine lv_bipush (v := (-77)) hx hb dL_hidden_7 (by decide) ?_
      exact rc_eiret hx hb hr hlocks hW hS (Nat.le_of_ble_eq_true rfl) (Nat.le_of_ble_eq_true rfl) rfl dL_hidden_9
    · rcases rc_lk_1 hkr with ⟨hk, hrr⟩ | hkr
      · subst hk
        subst hrr
        refine vx_calli (vx_runV (As := [.int u1]) (rest := []) ⟨hx, hb, hml, hown, hts⟩ (k_X8_hidden l hl9 hT a0 u1 h0 s.heap.size _ _ _ _ hm1) (cwV 1 hts (rc_gV tw_6_161 tw_6_162 tw_6_163 tw_1_1 tw_6_164) rfl rfl rfl (by decide +kernel) ⟨Nat.le_of_ble_eq_true rfl, Nat.le_of_ble_eq_true rfl⟩) (rc_preV hT hW hK hE hS h0 (by decide) rfl (q := (RX8, TX8, 9)) rfl [.int u1]) rfl rfl hl.1 rfl (lv_room (Nat.le_of_ble_eq_true rfl)) dL_hidden_2 ⟨Nat.le_of_ble_eq_true rfl, Nat.le_of_ble_eq_true rfl⟩) hS rc_Ain (rc_Afr hS) rc_Ain (fun E ce q9 u t H locs ht _ hp hB hz hq hS hce hcv hcl => ?_) (fun r1 u t H locs ht _ hp _ _ _ _ => absurd hp.1 (by decide))
        obtain ⟨hE1, hW2⟩ := hB
        have hW := (show rc_W Y sh rf σ' H by rw [← ht]; exact hW2)
        clear hW2
        have hE2 : E = "java/util/NoSuchElementException" := hE1
        subst hE2
        refine vx_catch (name := "java/util/NoSuchElementException") hown [⟨0, 5, 6, 52⟩] ⟨0, 5, 10, 62⟩ [] htab (List.forall_mem_cons.mpr ⟨Or.inr ⟨by decide, "java/lang/IndexOutOfBoundsException", hts _ tw_2_120, hN.2.1⟩, fun _ h => nomatch h⟩) (by decide) (by decide) (hts _ tw_2_200) (va_Nw.use rfl (rc_E_nw hE _ nw_3_4)) hce hcv hcl ?_
        show W p l e _ s m _ below meth c H locs _ _ _ (F0 m 10 ls [.ref q9])
        refine lv_astore_n (lv' := [(2, .ref q9), (0, .ref a0), (1, .int u1)]) hx hb dL_hidden_10 rfl hl (by decide) rfl (fun ls hl => ?_)
        refine lv_bipush (v := (-75)) hx hb dL_hidden_11 (by decide) ?_
        exact rc_eiret hx hb hr hlocks hW hS (Nat.le_of_ble_eq_true rfl) (Nat.le_of_ble_eq_true rfl) rfl dL_hidden_13
      · exact (rc_lk_0 hkr).elim
set_option maxHeartbeats 4000000 in
set_option maxRecDepth 100000 in
theorem k_L_hiddenAgain (l : Launch) (hl9 : l.stackTraces = false) {Y : rc_Y} {sh : Nat → Nat} {rf : rc_F} (hT : rc_T Y sh rf) (z : rc_Z) (a0 : Nat) (u1 : Int32) (h0 : sh a0 = 9) (sz : Nat) (σ σ' : rc_S) (r : Int32) (hm : f_L_hiddenAgain rf z a0 u1 σ = some (r, σ')) : Met l yL_hiddenAgain (Cond.codeWith yL_hiddenAgain cL_hiddenAgain 3 (some .int) [(0, 5, 6, 52), (0, 5, 10, 62)] :: rc_big) ({ frames := 10, cells := 3, slots := 18, locals := 170 } : Room) (rc_PL Y sh rf σ sz z [.ref a0, .int u1]) (va_Qi (fun (r' : Int32) (_ : Unit) => r' = r) (fun _ t => rc_W Y sh rf σ' t.heap) (rc_A sh sz)) 3 18 (rc_A sh sz) := by
  refine va_MetW (cc := cL_hiddenAgain) (maxL := 3) (ret := (some .int)) (hh := [(0, 5, 6, 52), (0, 5, 10, 62)]) (by decide +kernel) rfl ?_
  intro p e s m args below meth c s₁ B hml hv
  obtain ⟨rfl, hsz, ⟨hW, hK, hE⟩, hN, hXz⟩ := hv
  have hx := B.exec
  have hb := B.bytes
  have hr := B.returns
  have hts0 : ∀ w ∈ (Cond.codeWith yL_hiddenAgain cL_hiddenAgain 3 (some .int) [(0, 5, 6, 52), (0, 5, 10, 62)] :: rc_big), w.before _ s = true := atoms_spec (ws := Cond.codeWith yL_hiddenAgain cL_hiddenAgain 3 (some .int) [(0, 5, 6, 52), (0, 5, 10, 62)] :: rc_big) B.pre
  have htab := vx_table (x := yL_hiddenAgain) B (hts0 _ List.mem_cons_self)
  have hts : ∀ w ∈ rc_big, w.before _ s = true := fun w h => hts0 w (List.mem_cons_of_mem _ h)
  have hown : s.vm.findClass RL = some m.cls := findClass_of_methodNamed B.named
  have hlocks := B.notSynchronized
  clear B
  subst hsz
  have hS : va_S (rc_A sh s.heap.size) s.heap s.heap [] := va_S.rf
  have hl := lv_entry ([.ref a0, .int u1]) (n := 3) (Nat.le_of_ble_eq_true rfl)
  rw [lg_entry_eq]
  generalize (lg_sl ([.ref a0, .int u1]) ++ List.replicate (3 - (lg_sl ([.ref a0, .int u1])).length) Slot.unset).toArray = ls at hl ⊢
  have hl : lv_has ls 3 [(0, .ref a0), (1, .int u1)] := hl
  refine lv_aload_n hx hb dL_hiddenAgain_0 rfl (lv_at hl 0 rfl) ?_
  refine lv_iload_n hx hb dL_hiddenAgain_1 rfl (lv_at hl 1 rfl) ?_
  unfold f_L_hiddenAgain at hm
  obtain ⟨k, r0, hm1, hkr⟩ := rc_tr_inv hm
  rcases hkr with ⟨hk, hrr⟩ | hkr
  · subst hk
    subst hrr
    refine vx_calli (vx_runV (As := [.int u1]) (rest := []) ⟨hx, hb, hml, hown, hts⟩ (k_X8_hiddenAgain l hl9 hT a0 u1 h0 s.heap.size _ _ _ _ hm1) (cwV 1 hts (rc_gV tw_6_203 tw_6_204 tw_6_205 tw_1_1 tw_6_206) rfl rfl rfl (by decide +kernel) ⟨Nat.le_of_ble_eq_true rfl, Nat.le_of_ble_eq_true rfl⟩) (rc_preV hT hW hK hE hS h0 (by decide) rfl (q := (RX8, TX8, 9)) rfl [.int u1]) rfl rfl hl.1 rfl (lv_room (Nat.le_of_ble_eq_true rfl)) dL_hiddenAgain_2 ⟨Nat.le_of_ble_eq_true rfl, Nat.le_of_ble_eq_true rfl⟩) hS rc_Ain (rc_Afr hS) rc_Ain (fun E ce q9 u t H locs ht _ hp _ _ _ _ _ _ _ => absurd rfl hp) (fun r1 u t H locs ht _ hp hW2 hz hq hS => ?_)
    obtain ⟨-, rfl⟩ := hp
    have hW := (show rc_W Y sh rf σ' H by rw [← ht]; exact hW2)
    clear hW2
    exact rc_eiret hx hb hr hlocks hW hS (Nat.le_of_ble_eq_true rfl) (Nat.le_of_ble_eq_true rfl) rfl dL_hiddenAgain_5
  · rcases rc_lk_1 hkr with ⟨hk, hrr⟩ | hkr
    · subst hk
      subst hrr
      refine vx_calli (vx_runV (As := [.int u1]) (rest := []) ⟨hx, hb, hml, hown, hts⟩ (k_X8_hiddenAgain l hl9 hT a0 u1 h0 s.heap.size _ _ _ _ hm1) (cwV 1 hts (rc_gV tw_6_203 tw_6_204 tw_6_205 tw_1_1 tw_6_206) rfl rfl rfl (by decide +kernel) ⟨Nat.le_of_ble_eq_true rfl, Nat.le_of_ble_eq_true rfl⟩) (rc_preV hT hW hK hE hS h0 (by decide) rfl (q := (RX8, TX8, 9)) rfl [.int u1]) rfl rfl hl.1 rfl (lv_room (Nat.le_of_ble_eq_true rfl)) dL_hiddenAgain_2 ⟨Nat.le_of_ble_eq_true rfl, Nat.le_of_ble_eq_true rfl⟩) hS rc_Ain (rc_Afr hS) rc_Ain (fun E ce q9 u t H locs ht _ hp hB hz hq hS hce hcv hcl => ?_) (fun r1 u t H locs ht _ hp _ _ _ _ => absurd hp.1 (by decide))
      obtain ⟨hE1, hW2⟩ := hB
      have hW := (show rc_W Y sh rf σ' H by rw [← ht]; exact hW2)
      clear hW2
      have hE2 : E = "java/lang/IndexOutOfBoundsException" := hE1
      subst hE2
      refine vx_catch (name := "java/lang/IndexOutOfBoundsException") hown [] ⟨0, 5, 6, 52⟩ [⟨0, 5, 10, 62⟩] htab (fun z hz => nomatch hz) (by decide) (by decide) (hts _ tw_2_120) (va_Nw.use rfl (rc_E_nw hE _ nw_2_219)) hce hcv hcl ?_
      show W p l e _ s m _ below meth c H locs _ _ _ (F0 m 6 ls [.ref q9])
      refine lv_astore_n (lv' := [(2, .ref q9), (0, .ref a0), (1, .int u1)]) hx hb dL_hiddenAgain_6 rfl hl (by decide) rfl (fun ls hl => ?_)
      refine lv_bipush (v := (-77)) hx hb dL_hiddenAgain_7 (by decide) ?_
      exact rc_eiret hx hb hr hlocks hW hS (Nat.le_of_ble_eq_true rfl) (Nat.le_of_ble_eq_true rfl) rfl dL_hiddenAgain_9
    · rcases rc_lk_1 hkr with ⟨hk, hrr⟩ | hkr
      · subst hk
        subst hrr
        refine vx_calli (vx_runV (As := [.int u1]) (rest := []) ⟨hx, hb, hml, hown, hts⟩ (k_X8_hiddenAgain l hl9 hT a0 u1 h0 s.heap.size _ _ _ _ hm1) (cwV 1 hts (rc_gV tw_6_203 tw_6_204 tw_6_205 tw_1_1 tw_6_206) rfl rfl rfl (by decide +kernel) ⟨Nat.le_of_ble_eq_true rfl, Nat.le_of_ble_eq_true rfl⟩) (rc_preV hT hW hK hE hS h0 (by decide) rfl (q := (RX8, TX8, 9)) rfl [.int u1]) rfl rfl hl.1 rfl (lv_room (Nat.le_of_ble_eq_true rfl)) dL_hiddenAgain_2 ⟨Nat.le_of_ble_eq_true rfl, Nat.le_of_ble_eq_true rfl⟩) hS rc_Ain (rc_Afr hS) rc_Ain (fun E ce q9 u t H locs ht _ hp hB hz hq hS hce hcv hcl => ?_) (fun r1 u t H locs ht _ hp _ _ _ _ => absurd hp.1 (by decide))
        obtain ⟨hE1, hW2⟩ := hB
        have hW := (show rc_W Y sh rf σ' H by rw [← ht]; exact hW2)
        clear hW2
        have hE2 : E = "java/util/NoSuchElementException" := hE1
        subst hE2
        refine vx_catch (name := "java/util/NoSuchElementException") hown [⟨0, 5, 6, 52⟩] ⟨0, 5, 10, 62⟩ [] htab (List.forall_mem_cons.mpr ⟨Or.inr ⟨by decide, "java/lang/IndexOutOfBoundsException", hts _ tw_2_120, hN.2.1⟩, fun _ h => nomatch h⟩) (by decide) (by decide) (hts _ tw_2_200) (va_Nw.use rfl (rc_E_nw hE _ nw_3_4)) hce hcv hcl ?_
        show W p l e _ s m _ below meth c H locs _ _ _ (F0 m 10 ls [.ref q9])
        refine lv_astore_n (lv' := [(2, .ref q9), (0, .ref a0), (1, .int u1)]) hx hb dL_hiddenAgain_10 rfl hl (by decide) rfl (fun ls hl => ?_)
        refine lv_bipush (v := (-75)) hx hb dL_hiddenAgain_11 (by decide) ?_
        exact rc_eiret hx hb hr hlocks hW hS (Nat.le_of_ble_eq_true rfl) (Nat.le_of_ble_eq_true rfl) rfl dL_hiddenAgain_13
      · exact (rc_lk_0 hkr).elim
set_option maxHeartbeats 4000000 in
set_option maxRecDepth 100000 in
theorem k_L_leave (l : Launch) (hl9 : l.stackTraces = false) {Y : rc_Y} {sh : Nat → Nat} {rf : rc_F} (hT : rc_T Y sh rf) (z : rc_Z) (a0 : Nat) (u1 : Int32) (h0 : sh a0 = 9) (sz : Nat) (σ σ' : rc_S) (r : Int32) (hm : f_L_leave rf z a0 u1 σ = some (r, σ')) : Met l yL_leave (Cond.codeWith yL_leave cL_leave 3 (some .int) [(0, 5, 6, 20)] :: rc_big) ({ frames := 8, cells := 1, slots := 6, locals := 123 } : Room) (rc_PL Y sh rf σ sz z [.ref a0, .int u1]) (va_Qi (fun (r' : Int32) (_ : Unit) => r' = r) (fun _ t => rc_W Y sh rf σ' t.heap) (rc_A sh sz)) 1 6 (rc_A sh sz) := by
  refine va_MetW (cc := cL_leave) (maxL := 3) (ret := (some .int)) (hh := [(0, 5, 6, 20)]) (by decide +kernel) rfl ?_
  intro p e s m args below meth c s₁ B hml hv
  obtain ⟨rfl, hsz, ⟨hW, hK, hE⟩, hN, hXz⟩ := hv
  have hx := B.exec
  have hb := B.bytes
  have hr := B.returns
  have hts0 : ∀ w ∈ (Cond.codeWith yL_leave cL_leave 3 (some .int) [(0, 5, 6, 20)] :: rc_big), w.before _ s = true := atoms_spec (ws := Cond.codeWith yL_leave cL_leave 3 (some .int) [(0, 5, 6, 20)] :: rc_big) B.pre
  have htab := vx_table (x := yL_leave) B (hts0 _ List.mem_cons_self)
  have hts : ∀ w ∈ rc_big, w.before _ s = true := fun w h => hts0 w (List.mem_cons_of_mem _ h)
  have hown : s.vm.findClass RL = some m.cls := findClass_of_methodNamed B.named
  have hlocks := B.notSynchronized
  clear B
  subst hsz
  have hS : va_S (rc_A sh s.heap.size) s.heap s.heap [] := va_S.rf
  have hl := lv_entry ([.ref a0, .int u1]) (n := 3) (Nat.le_of_ble_eq_true rfl)
  rw [lg_entry_eq]
  generalize (lg_sl ([.ref a0, .int u1]) ++ List.replicate (3 - (lg_sl ([.ref a0, .int u1])).length) Slot.unset).toArray = ls at hl ⊢
  have hl : lv_has ls 3 [(0, .ref a0), (1, .int u1)] := hl
  refine lv_aload_n hx hb dL_leave_0 rfl (lv_at hl 0 rfl) ?_
  refine lv_iload_n hx hb dL_leave_1 rfl (lv_at hl 1 rfl) ?_
  unfold f_L_leave at hm
  obtain ⟨k, r0, hm1, hkr⟩ := rc_tr_inv hm
  rcases hkr with ⟨hk, hrr⟩ | hkr
  · subst hk
    subst hrr
    refine vx_calli (vx_runV (As := [.int u1]) (rest := []) ⟨hx, hb, hml, hown, hts⟩ (k_X8_leave l hl9 hT a0 u1 h0 s.heap.size _ _ _ _ hm1) (cwV 1 hts (rc_gV tw_4_32 tw_4_33 tw_4_34 tw_1_1 tw_4_35) rfl rfl rfl (by decide +kernel) ⟨Nat.le_of_ble_eq_true rfl, Nat.le_of_ble_eq_true rfl⟩) (rc_preV hT hW hK hE hS h0 (by decide) rfl (q := (RX8, TX8, 9)) rfl [.int u1]) rfl rfl hl.1 rfl (lv_room (Nat.le_of_ble_eq_true rfl)) dL_leave_2 ⟨Nat.le_of_ble_eq_true rfl, Nat.le_of_ble_eq_true rfl⟩) hS rc_Ain (rc_Afr hS) rc_Ain (fun E ce q9 u t H locs ht _ hp _ _ _ _ _ _ _ => absurd rfl hp) (fun r1 u t H locs ht _ hp hW2 hz hq hS => ?_)
    obtain ⟨-, rfl⟩ := hp
    have hW := (show rc_W Y sh rf σ' H by rw [← ht]; exact hW2)
    clear hW2
    exact rc_eiret hx hb hr hlocks hW hS (Nat.le_of_ble_eq_true rfl) (Nat.le_of_ble_eq_true rfl) rfl dL_leave_5
  · rcases rc_lk_1 hkr with ⟨hk, hrr⟩ | hkr
    · subst hk
      subst hrr
      refine vx_calli (vx_runV (As := [.int u1]) (rest := []) ⟨hx, hb, hml, hown, hts⟩ (k_X8_leave l hl9 hT a0 u1 h0 s.heap.size _ _ _ _ hm1) (cwV 1 hts (rc_gV tw_4_32 tw_4_33 tw_4_34 tw_1_1 tw_4_35) rfl rfl rfl (by decide +kernel) ⟨Nat.le_of_ble_eq_true rfl, Nat.le_of_ble_eq_true rfl⟩) (rc_preV hT hW hK hE hS h0 (by decide) rfl (q := (RX8, TX8, 9)) rfl [.int u1]) rfl rfl hl.1 rfl (lv_room (Nat.le_of_ble_eq_true rfl)) dL_leave_2 ⟨Nat.le_of_ble_eq_true rfl, Nat.le_of_ble_eq_true rfl⟩) hS rc_Ain (rc_Afr hS) rc_Ain (fun E ce q9 u t H locs ht _ hp hB hz hq hS hce hcv hcl => ?_) (fun r1 u t H locs ht _ hp _ _ _ _ => absurd hp.1 (by decide))
      obtain ⟨hE1, hW2⟩ := hB
      have hW := (show rc_W Y sh rf σ' H by rw [← ht]; exact hW2)
      clear hW2
      have hE2 : E = "java/lang/UnsupportedOperationException" := hE1
      subst hE2
      refine vx_catch (name := "java/lang/UnsupportedOperationException") hown [] ⟨0, 5, 6, 20⟩ [] htab (fun z hz => nomatch hz) (by decide) (by decide) (hts _ tw_3_135) (va_Nw.use rfl (rc_E_nw hE _ nw_3_198)) hce hcv hcl ?_
      show W p l e _ s m _ below meth c H locs _ _ _ (F0 m 6 ls [.ref q9])
      refine lv_astore_n (lv' := [(2, .ref q9), (0, .ref a0), (1, .int u1)]) hx hb dL_leave_6 rfl hl (by decide) rfl (fun ls hl => ?_)
      refine lv_bipush (v := (-76)) hx hb dL_leave_7 (by decide) ?_
      exact rc_eiret hx hb hr hlocks hW hS (Nat.le_of_ble_eq_true rfl) (Nat.le_of_ble_eq_true rfl) rfl dL_leave_9
    · exact (rc_lk_0 hkr).elim
set_option maxHeartbeats 4000000 in
set_option maxRecDepth 100000 in
theorem k_L_line (l : Launch) (hl9 : l.stackTraces = false) {Y : rc_Y} {sh : Nat → Nat} {rf : rc_F} (hT : rc_T Y sh rf) (z : rc_Z) (a0 : Nat) (u1 : Int32) (h0 : sh a0 = 9) (sz : Nat) (σ σ' : rc_S) (r : Int32) (hm : f_L_line rf z a0 u1 σ = some (r, σ')) : Met l yL_line (Cond.codeWith yL_line cL_line 3 (some .int) [(0, 5, 6, 52)] :: rc_big) ({ frames := 8, cells := 1, slots := 6, locals := 124 } : Room) (rc_PL Y sh rf σ sz z [.ref a0, .int u1]) (va_Qi (fun (r' : Int32) (_ : Unit) => r' = r) (fun _ t => rc_W Y sh rf σ' t.heap) (rc_A sh sz)) 1 6 (rc_A sh sz) := by
  refine va_MetW (cc := cL_line) (maxL := 3) (ret := (some .int)) (hh := [(0, 5, 6, 52)]) (by decide +kernel) rfl ?_
  intro p e s m args below meth c s₁ B hml hv
  obtain ⟨rfl, hsz, ⟨hW, hK, hE⟩, hN, hXz⟩ := hv
  have hx := B.exec
  have hb := B.bytes
  have hr := B.returns
  have hts0 : ∀ w ∈ (Cond.codeWith yL_line cL_line 3 (some .int) [(0, 5, 6, 52)] :: rc_big), w.before _ s = true := atoms_spec (ws := Cond.codeWith yL_line cL_line 3 (some .int) [(0, 5, 6, 52)] :: rc_big) B.pre
  have htab := vx_table (x := yL_line) B (hts0 _ List.mem_cons_self)
  have hts : ∀ w ∈ rc_big, w.before _ s = true := fun w h => hts0 w (List.mem_cons_of_mem _ h)
  have hown : s.vm.findClass RL = some m.cls := findClass_of_methodNamed B.named
  have hlocks := B.notSynchronized
  clear B
  subst hsz
  have hS : va_S (rc_A sh s.heap.size) s.heap s.heap [] := va_S.rf
  have hl := lv_entry ([.ref a0, .int u1]) (n := 3) (Nat.le_of_ble_eq_true rfl)
  rw [lg_entry_eq]
  generalize (lg_sl ([.ref a0, .int u1]) ++ List.replicate (3 - (lg_sl ([.ref a0, .int u1])).length) Slot.unset).toArray = ls at hl ⊢
  have hl : lv_has ls 3 [(0, .ref a0), (1, .int u1)] := hl
  refine lv_aload_n hx hb dL_line_0 rfl (lv_at hl 0 rfl) ?_
  refine lv_iload_n hx hb dL_line_1 rfl (lv_at hl 1 rfl) ?_
  unfold f_L_line at hm
  obtain ⟨k, r0, hm1, hkr⟩ := rc_tr_inv hm
  rcases hkr with ⟨hk, hrr⟩ | hkr
  · subst hk
    subst hrr
    refine vx_calli (vx_runV (As := [.int u1]) (rest := []) ⟨hx, hb, hml, hown, hts⟩ (k_X8_line l hl9 hT a0 u1 h0 s.heap.size _ _ _ _ hm1) (cwV 1 hts (rc_gV tw_6_178 tw_6_179 tw_6_180 tw_1_1 tw_6_181) rfl rfl rfl (by decide +kernel) ⟨Nat.le_of_ble_eq_true rfl, Nat.le_of_ble_eq_true rfl⟩) (rc_preV hT hW hK hE hS h0 (by decide) rfl (q := (RX8, TX8, 9)) rfl [.int u1]) rfl rfl hl.1 rfl (lv_room (Nat.le_of_ble_eq_true rfl)) dL_line_2 ⟨Nat.le_of_ble_eq_true rfl, Nat.le_of_ble_eq_true rfl⟩) hS rc_Ain (rc_Afr hS) rc_Ain (fun E ce q9 u t H locs ht _ hp _ _ _ _ _ _ _ => absurd rfl hp) (fun r1 u t H locs ht _ hp hW2 hz hq hS => ?_)
    obtain ⟨-, rfl⟩ := hp
    have hW := (show rc_W Y sh rf σ' H by rw [← ht]; exact hW2)
    clear hW2
    exact rc_eiret hx hb hr hlocks hW hS (Nat.le_of_ble_eq_true rfl) (Nat.le_of_ble_eq_true rfl) rfl dL_line_5
  · rcases rc_lk_1 hkr with ⟨hk, hrr⟩ | hkr
    · subst hk
      subst hrr
      refine vx_calli (vx_runV (As := [.int u1]) (rest := []) ⟨hx, hb, hml, hown, hts⟩ (k_X8_line l hl9 hT a0 u1 h0 s.heap.size _ _ _ _ hm1) (cwV 1 hts (rc_gV tw_6_178 tw_6_179 tw_6_180 tw_1_1 tw_6_181) rfl rfl rfl (by decide +kernel) ⟨Nat.le_of_ble_eq_true rfl, Nat.le_of_ble_eq_true rfl⟩) (rc_preV hT hW hK hE hS h0 (by decide) rfl (q := (RX8, TX8, 9)) rfl [.int u1]) rfl rfl hl.1 rfl (lv_room (Nat.le_of_ble_eq_true rfl)) dL_line_2 ⟨Nat.le_of_ble_eq_true rfl, Nat.le_of_ble_eq_true rfl⟩) hS rc_Ain (rc_Afr hS) rc_Ain (fun E ce q9 u t H locs ht _ hp hB hz hq hS hce hcv hcl => ?_) (fun r1 u t H locs ht _ hp _ _ _ _ => absurd hp.1 (by decide))
      obtain ⟨hE1, hW2⟩ := hB
      have hW := (show rc_W Y sh rf σ' H by rw [← ht]; exact hW2)
      clear hW2
      have hE2 : E = "java/lang/IndexOutOfBoundsException" := hE1
      subst hE2
      refine vx_catch (name := "java/lang/IndexOutOfBoundsException") hown [] ⟨0, 5, 6, 52⟩ [] htab (fun z hz => nomatch hz) (by decide) (by decide) (hts _ tw_2_120) (va_Nw.use rfl (rc_E_nw hE _ nw_2_219)) hce hcv hcl ?_
      show W p l e _ s m _ below meth c H locs _ _ _ (F0 m 6 ls [.ref q9])
      refine lv_astore_n (lv' := [(2, .ref q9), (0, .ref a0), (1, .int u1)]) hx hb dL_line_6 rfl hl (by decide) rfl (fun ls hl => ?_)
      refine lv_bipush (v := (-77)) hx hb dL_line_7 (by decide) ?_
      exact rc_eiret hx hb hr hlocks hW hS (Nat.le_of_ble_eq_true rfl) (Nat.le_of_ble_eq_true rfl) rfl dL_line_9
    · exact (rc_lk_0 hkr).elim
set_option maxHeartbeats 4000000 in
set_option maxRecDepth 100000 in
theorem k_L_meanNote (l : Launch) (hl9 : l.stackTraces = false) {Y : rc_Y} {sh : Nat → Nat} {rf : rc_F} (hT : rc_T Y sh rf) (z : rc_Z) (a0 : Nat) (h0 : sh a0 = 9) (sz : Nat) (σ σ' : rc_S) (r : UInt64) (hm : f_L_meanNote rf z a0 σ = some (r, σ')) : Met l yL_meanNote (Cond.codeWith yL_meanNote cL_meanNote 2 (some .double) [(0, 4, 5, 125)] :: rc_big) ({ frames := 7, cells := 1, slots := 6, locals := 128 } : Room) (rc_PL Y sh rf σ sz z [.ref a0]) (va_Qd (fun (r' : UInt64) (_ : Unit) => r' = r) (fun _ t => rc_W Y sh rf σ' t.heap) (rc_A sh sz)) 1 6 (rc_A sh sz) := by
  refine va_MetW (cc := cL_meanNote) (maxL := 2) (ret := (some .double)) (hh := [(0, 4, 5, 125)]) (by decide +kernel) rfl ?_
  intro p e s m args below meth c s₁ B hml hv
  obtain ⟨rfl, hsz, ⟨hW, hK, hE⟩, hN, hXz⟩ := hv
  have hx := B.exec
  have hb := B.bytes
  have hr := B.returns
  have hts0 : ∀ w ∈ (Cond.codeWith yL_meanNote cL_meanNote 2 (some .double) [(0, 4, 5, 125)] :: rc_big), w.before _ s = true := atoms_spec (ws := Cond.codeWith yL_meanNote cL_meanNote 2 (some .double) [(0, 4, 5, 125)] :: rc_big) B.pre
  have htab := vx_table (x := yL_meanNote) B (hts0 _ List.mem_cons_self)
  have hts : ∀ w ∈ rc_big, w.before _ s = true := fun w h => hts0 w (List.mem_cons_of_mem _ h)
  have hown : s.vm.findClass RL = some m.cls := findClass_of_methodNamed B.named
  have hlocks := B.notSynchronized
  clear B
  subst hsz
  have hS : va_S (rc_A sh s.heap.size) s.heap s.heap [] := va_S.rf
  have hl := lv_entry ([.ref a0]) (n := 2) (Nat.le_of_ble_eq_true rfl)
  rw [lg_entry_eq]
  generalize (lg_sl ([.ref a0]) ++ List.replicate (2 - (lg_sl ([.ref a0])).length) Slot.unset).toArray = ls at hl ⊢
  have hl : lv_has ls 2 [(0, .ref a0)] := hl
  refine lv_aload_n hx hb dL_meanNote_0 rfl (lv_at hl 0 rfl) ?_
  unfold f_L_meanNote at hm
  obtain ⟨k, r0, hm1, hkr⟩ := rc_td_inv hm
  rcases hkr with ⟨hk, hrr⟩ | ⟨hk, hrr⟩
  · subst hk
    subst hrr
    refine vx_calld (vx_runV (As := []) (rest := []) ⟨hx, hb, hml, hown, hts⟩ (k_X8_meanNote l hl9 hT a0 h0 s.heap.size _ _ _ _ hm1) (cwV 0 hts (rc_gV tw_7_46 tw_7_47 tw_7_48 tw_1_1 tw_7_49) rfl rfl rfl (by decide +kernel) ⟨Nat.le_of_ble_eq_true rfl, Nat.le_of_ble_eq_true rfl⟩) (rc_preV hT hW hK hE hS h0 (by decide) rfl (q := (RX8, TX8, 9)) rfl []) rfl rfl hl.1 rfl (lv_room (Nat.le_of_ble_eq_true rfl)) dL_meanNote_1 ⟨Nat.le_of_ble_eq_true rfl, Nat.le_of_ble_eq_true rfl⟩) hS rc_Ain (rc_Afr hS) rc_Ain (fun E ce q9 u t H locs ht _ hp _ _ _ _ _ _ _ => absurd rfl hp) (fun r1 u t H locs ht _ hp hW2 hz hq hS => ?_)
    obtain ⟨-, rfl⟩ := hp
    have hW := (show rc_W Y sh rf σ' H by rw [← ht]; exact hW2)
    clear hW2
    exact rc_edret hx hb hr hlocks hW hS (Nat.le_of_ble_eq_true rfl) (Nat.le_of_ble_eq_true rfl) rfl dL_meanNote_4
  · subst hk
    subst hrr
    refine vx_calld (vx_runV (As := []) (rest := []) ⟨hx, hb, hml, hown, hts⟩ (k_X8_meanNote l hl9 hT a0 h0 s.heap.size _ _ _ _ hm1) (cwV 0 hts (rc_gV tw_7_46 tw_7_47 tw_7_48 tw_1_1 tw_7_49) rfl rfl rfl (by decide +kernel) ⟨Nat.le_of_ble_eq_true rfl, Nat.le_of_ble_eq_true rfl⟩) (rc_preV hT hW hK hE hS h0 (by decide) rfl (q := (RX8, TX8, 9)) rfl []) rfl rfl hl.1 rfl (lv_room (Nat.le_of_ble_eq_true rfl)) dL_meanNote_1 ⟨Nat.le_of_ble_eq_true rfl, Nat.le_of_ble_eq_true rfl⟩) hS rc_Ain (rc_Afr hS) rc_Ain (fun E ce q9 u t H locs ht _ hp hB hz hq hS hce hcv hcl => ?_) (fun r1 u t H locs ht _ hp _ _ _ _ => absurd hp.1 (by decide))
    obtain ⟨hE1, hW2⟩ := hB
    have hW := (show rc_W Y sh rf σ' H by rw [← ht]; exact hW2)
    clear hW2
    have hE2 : E = "java/lang/ArithmeticException" := hE1
    subst hE2
    refine vx_catch (name := "java/lang/ArithmeticException") hown [] ⟨0, 4, 5, 125⟩ [] htab (fun z hz => nomatch hz) (by decide) (by decide) (hts _ tw_7_32) (va_Nw.use rfl (rc_E_nw hE _ nw_7_44)) hce hcv hcl ?_
    show W p l e _ s m _ below meth c H locs _ _ _ (F0 m 5 ls [.ref q9])
    refine lv_astore_n (lv' := [(1, .ref q9), (0, .ref a0)]) hx hb dL_meanNote_5 rfl hl (by decide) rfl (fun ls hl => ?_)
    refine lv_ldc2d hx hb hown (hts _ tw_7_55) dL_meanNote_6 ?_
    exact rc_edret hx hb hr hlocks hW hS (Nat.le_of_ble_eq_true rfl) (Nat.le_of_ble_eq_true rfl) rfl dL_meanNote_9
set_option maxHeartbeats 4000000 in
set_option maxRecDepth 100000 in
theorem k_L_note (l : Launch) (hl9 : l.stackTraces = false) {Y : rc_Y} {sh : Nat → Nat} {rf : rc_F} (hT : rc_T Y sh rf) (z : rc_Z) (a0 : Nat) (u1 : Int32) (h0 : sh a0 = 9) (sz : Nat) (σ σ' : rc_S) (r : Int32) (hm : f_L_note rf z a0 u1 σ = some (r, σ')) : Met l yL_note (Cond.codeWith yL_note cL_note 3 (some .int) [(0, 5, 6, 52), (0, 5, 10, 62)] :: rc_big) ({ frames := 9, cells := 2, slots := 12, locals := 145 } : Room) (rc_PL Y sh rf σ sz z [.ref a0, .int u1]) (va_Qi (fun (r' : Int32) (_ : Unit) => r' = r) (fun _ t => rc_W Y sh rf σ' t.heap) (rc_A sh sz)) 2 12 (rc_A sh sz) := by
  refine va_MetW (cc := cL_note) (maxL := 3) (ret := (some .int)) (hh := [(0, 5, 6, 52), (0, 5, 10, 62)]) (by decide +kernel) rfl ?_
  intro p e s m args below meth c s₁ B hml hv
  obtain ⟨rfl, hsz, ⟨hW, hK, hE⟩, hN, hXz⟩ := hv
  have hx := B.exec
  have hb := B.bytes
  have hr := B.returns
  have hts0 : ∀ w ∈ (Cond.codeWith yL_note cL_note 3 (some .int) [(0, 5, 6, 52), (0, 5, 10, 62)] :: rc_big), w.before _ s = true := atoms_spec (ws := Cond.codeWith yL_note cL_note 3 (some .int) [(0, 5, 6, 52), (0, 5, 10, 62)] :: rc_big) B.pre
  have htab := vx_table (x := yL_note) B (hts0 _ List.mem_cons_self)
  have hts : ∀ w ∈ rc_big, w.before _ s = true := fun w h => hts0 w (List.mem_cons_of_mem _ h)
  have hown : s.vm.findClass RL = some m.cls := findClass_of_methodNamed B.named
  have hlocks := B.notSynchronized
  clear B
  subst hsz
  have hS : va_S (rc_A sh s.heap.size) s.heap s.heap [] := va_S.rf
  have hl := lv_entry ([.ref a0, .int u1]) (n := 3) (Nat.le_of_ble_eq_true rfl)
  rw [lg_entry_eq]
  generalize (lg_sl ([.ref a0, .int u1]) ++ List.replicate (3 - (lg_sl ([.ref a0, .int u1])).length) Slot.unset).toArray = ls at hl ⊢
  have hl : lv_has ls 3 [(0, .ref a0), (1, .int u1)] := hl
  refine lv_aload_n hx hb dL_note_0 rfl (lv_at hl 0 rfl) ?_
  refine lv_iload_n hx hb dL_note_1 rfl (lv_at hl 1 rfl) ?_
  unfold f_L_note at hm
  obtain ⟨k, r0, hm1, hkr⟩ := rc_tr_inv hm
  rcases hkr with ⟨hk, hrr⟩ | hkr
  · subst hk
    subst hrr
    refine vx_calli (vx_runV (As := [.int u1]) (rest := []) ⟨hx, hb, hml, hown, hts⟩ (k_X8_note l hl9 hT a0 u1 h0 s.heap.size _ _ _ _ hm1) (cwV 1 hts (rc_gV tw_2_201 tw_2_202 tw_2_203 tw_1_1 tw_2_204) rfl rfl rfl (by decide +kernel) ⟨Nat.le_of_ble_eq_true rfl, Nat.le_of_ble_eq_true rfl⟩) (rc_preV hT hW hK hE hS h0 (by decide) rfl (q := (RX8, TX8, 9)) rfl [.int u1]) rfl rfl hl.1 rfl (lv_room (Nat.le_of_ble_eq_true rfl)) dL_note_2 ⟨Nat.le_of_ble_eq_true rfl, Nat.le_of_ble_eq_true rfl⟩) hS rc_Ain (rc_Afr hS) rc_Ain (fun E ce q9 u t H locs ht _ hp _ _ _ _ _ _ _ => absurd rfl hp) (fun r1 u t H locs ht _ hp hW2 hz hq hS => ?_)
    obtain ⟨-, rfl⟩ := hp
    have hW := (show rc_W Y sh rf σ' H by rw [← ht]; exact hW2)
    clear hW2
    exact rc_eiret hx hb hr hlocks hW hS (Nat.le_of_ble_eq_true rfl) (Nat.le_of_ble_eq_true rfl) rfl dL_note_5
  · rcases rc_lk_1 hkr with ⟨hk, hrr⟩ | hkr
    · subst hk
      subst hrr
      refine vx_calli (vx_runV (As := [.int u1]) (rest := []) ⟨hx, hb, hml, hown, hts⟩ (k_X8_note l hl9 hT a0 u1 h0 s.heap.size _ _ _ _ hm1) (cwV 1 hts (rc_gV tw_2_201 tw_2_202 tw_2_203 tw_1_1 tw_2_204) rfl rfl rfl (by decide +kernel) ⟨Nat.le_of_ble_eq_true rfl, Nat.le_of_ble_eq_true rfl⟩) (rc_preV hT hW hK hE hS h0 (by decide) rfl (q := (RX8, TX8, 9)) rfl [.int u1]) rfl rfl hl.1 rfl (lv_room (Nat.le_of_ble_eq_true rfl)) dL_note_2 ⟨Nat.le_of_ble_eq_true rfl, Nat.le_of_ble_eq_true rfl⟩) hS rc_Ain (rc_Afr hS) rc_Ain (fun E ce q9 u t H locs ht _ hp hB hz hq hS hce hcv hcl => ?_) (fun r1 u t H locs ht _ hp _ _ _ _ => absurd hp.1 (by decide))
      obtain ⟨hE1, hW2⟩ := hB
      have hW := (show rc_W Y sh rf σ' H by rw [← ht]; exact hW2)
      clear hW2
      have hE2 : E = "java/lang/IndexOutOfBoundsException" := hE1
      subst hE2
      refine vx_catch (name := "java/lang/IndexOutOfBoundsException") hown [] ⟨0, 5, 6, 52⟩ [⟨0, 5, 10, 62⟩] htab (fun z hz => nomatch hz) (by decide) (by decide) (hts _ tw_2_120) (va_Nw.use rfl (rc_E_nw hE _ nw_2_219)) hce hcv hcl ?_
      show W p l e _ s m _ below meth c H locs _ _ _ (F0 m 6 ls [.ref q9])
      refine lv_astore_n (lv' := [(2, .ref q9), (0, .ref a0), (1, .int u1)]) hx hb dL_note_6 rfl hl (by decide) rfl (fun ls hl => ?_)
      refine lv_bipush (v := (-77)) hx hb dL_note_7 (by decide) ?_
      exact rc_eiret hx hb hr hlocks hW hS (Nat.le_of_ble_eq_true rfl) (Nat.le_of_ble_eq_true rfl) rfl dL_note_9
    · rcases rc_lk_1 hkr with ⟨hk, hrr⟩ | hkr
      · subst hk
        subst hrr
        refine vx_calli (vx_runV (As := [.int u1]) (rest := []) ⟨hx, hb, hml, hown, hts⟩ (k_X8_note l hl9 hT a0 u1 h0 s.heap.size _ _ _ _ hm1) (cwV 1 hts (rc_gV tw_2_201 tw_2_202 tw_2_203 tw_1_1 tw_2_204) rfl rfl rfl (by decide +kernel) ⟨Nat.le_of_ble_eq_true rfl, Nat.le_of_ble_eq_true rfl⟩) (rc_preV hT hW hK hE hS h0 (by decide) rfl (q := (RX8, TX8, 9)) rfl [.int u1]) rfl rfl hl.1 rfl (lv_room (Nat.le_of_ble_eq_true rfl)) dL_note_2 ⟨Nat.le_of_ble_eq_true rfl, Nat.le_of_ble_eq_true rfl⟩) hS rc_Ain (rc_Afr hS) rc_Ain (fun E ce q9 u t H locs ht _ hp hB hz hq hS hce hcv hcl => ?_) (fun r1 u t H locs ht _ hp _ _ _ _ => absurd hp.1 (by decide))
        obtain ⟨hE1, hW2⟩ := hB
        have hW := (show rc_W Y sh rf σ' H by rw [← ht]; exact hW2)
        clear hW2
        have hE2 : E = "java/util/NoSuchElementException" := hE1
        subst hE2
        refine vx_catch (name := "java/util/NoSuchElementException") hown [⟨0, 5, 6, 52⟩] ⟨0, 5, 10, 62⟩ [] htab (List.forall_mem_cons.mpr ⟨Or.inr ⟨by decide, "java/lang/IndexOutOfBoundsException", hts _ tw_2_120, hN.2.1⟩, fun _ h => nomatch h⟩) (by decide) (by decide) (hts _ tw_2_200) (va_Nw.use rfl (rc_E_nw hE _ nw_3_4)) hce hcv hcl ?_
        show W p l e _ s m _ below meth c H locs _ _ _ (F0 m 10 ls [.ref q9])
        refine lv_astore_n (lv' := [(2, .ref q9), (0, .ref a0), (1, .int u1)]) hx hb dL_note_10 rfl hl (by decide) rfl (fun ls hl => ?_)
        refine lv_bipush (v := (-75)) hx hb dL_note_11 (by decide) ?_
        exact rc_eiret hx hb hr hlocks hW hS (Nat.le_of_ble_eq_true rfl) (Nat.le_of_ble_eq_true rfl) rfl dL_note_13
      · exact (rc_lk_0 hkr).elim
