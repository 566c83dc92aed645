def f_X0_copyVintage (rf : rc_F) (a0 : Nat) (r1 : Nat) (σ : rc_S) : Option (Unit × rc_S) :=
  rc_lt (rc_up σ a0 3 (σ r1 3)) fun σ_1 =>
  rc_lt (rc_up σ_1 a0 4 (σ_1 r1 4)) fun σ_2 =>
  rc_lt (rc_up σ_2 a0 5 (σ_2 r1 5)) fun σ_3 =>
  some ((), σ_3)
def f_X0_copy (rf : rc_F) (a0 : Nat) (r1 : Nat) (σ : rc_S) : Option (Unit × rc_S) :=
  rc_lt (rc_up σ a0 0 (σ r1 0)) fun σ_1 =>
  rc_lt (rc_up σ_1 a0 1 (σ_1 r1 1)) fun σ_2 =>
  rc_lt (rc_up σ_2 a0 2 (σ_2 r1 2)) fun σ_3 =>
  rc_bd (f_X0_copyVintage rf a0 r1 σ_3) fun _ σ_4 =>
  some ((), σ_4)
def f_X0_makeEmpty (rf : rc_F) (a0 : Nat) (σ : rc_S) : Option (Unit × rc_S) :=
  rc_lt (rc_up σ a0 1 (0 : Int32)) fun σ_1 =>
  rc_lt (rc_up σ_1 a0 2 (0 : Int32)) fun σ_2 =>
  rc_lt (rc_up σ_2 a0 3 (-1 : Int32)) fun σ_3 =>
  rc_lt (rc_up σ_3 a0 4 (0 : Int32)) fun σ_4 =>
  rc_lt (rc_up σ_4 a0 5 (0 : Int32)) fun σ_5 =>
  some ((), σ_5)
def f_X0_isEmpty (rf : rc_F) (a0 : Nat) (σ : rc_S) : Option (Int32 × rc_S) :=
  if (σ a0 1) = 0 then
    some ((1 : Int32), σ)
  else
    some ((0 : Int32), σ)
def f_X0_isFreeFor (rf : rc_F) (a0 : Nat) (v1 : Int32) (σ : rc_S) : Option (Int32 × rc_S) :=
  rc_bd (f_X0_isEmpty rf a0 σ) fun w_1 σ_1 =>
  if w_1 = 0 then
    if (σ_1 a0 3) = v1 then
      some ((1 : Int32), σ_1)
    else
      some ((0 : Int32), σ_1)
  else
    some ((1 : Int32), σ_1)
def f_X0_room (rf : rc_F) (a0 : Nat) (σ : rc_S) : Option (Int32 × rc_S) :=
  some (((20 : Int32) - (σ a0 1)), σ)
def f_X0_hailPartWith (rf : rc_F) (a0 : Nat) (v1 : Int32) (σ : rc_S) : Option (Int32 × rc_S) :=
  rc_lt ((σ a0 1) + v1) fun v2_1 =>
  if 0 < v2_1 then
    rc_ck (decide (¬ v2_1 = 0)) <|
    some ((((100 : Int32) * ((σ a0 2) + v1)) / v2_1), σ)
  else
    some ((0 : Int32), σ)
def f_X0_hailPart (rf : rc_F) (a0 : Nat) (σ : rc_S) : Option (Int32 × rc_S) :=
  rc_bd (f_X0_hailPartWith rf a0 (0 : Int32) σ) fun w_1 σ_1 =>
  some (w_1, σ_1)
def f_X0_ageIn (rf : rc_F) (a0 : Nat) (v1 : Int32) (σ : rc_S) : Option (Int32 × rc_S) :=
  rc_bd (f_X0_isEmpty rf a0 σ) fun w_1 σ_1 =>
  if w_1 = 0 then
    some ((v1 - (σ_1 a0 4)), σ_1)
  else
    some ((0 : Int32), σ_1)
def f_X0_noteOfTaste (rf : rc_F) (a0 : Nat) (v1 : Int32) (σ : rc_S) : Option (Int32 × rc_S) :=
  rc_bd (f_X0_hailPart rf a0 σ) fun w_1 σ_1 =>
  some (((v1 * ((100 : Int32) - w_1)) / (100 : Int32)), σ_1)
def f_X0_noteAtAge (rf : rc_F) (a0 : Nat) (v1 : Int32) (σ : rc_S) : Option (Int32 × rc_S) :=
  rc_bd (f_X0_noteOfTaste rf a0 (if (9 : Int32) < ((σ a0 5) + (v1 / (2 : Int32))) then (9 : Int32) else ((σ a0 5) + (v1 / (2 : Int32)))) σ) fun w_1 σ_1 =>
  some (w_1, σ_1)
def f_X0_noteYearByYear_7 (rf : rc_F) (a0 : Nat) (v1 : Int32) (K : Int32 → Int32 → rc_S → Option (Int32 × rc_S)) : Nat → Int32 → Int32 → rc_S → Option (Int32 × rc_S)
  | 0, _, _, _ => none
  | n + 1, v2, v3, σ =>
    if v1 < v3 then
      K v2 v3 σ
    else
      if (v3 - v3 / (2 : Int32) * (2 : Int32)) = 0 then
        if (9 : Int32) ≤ v2 then
          rc_lt (v3 + 1) fun v3_3 =>
          f_X0_noteYearByYear_7 rf a0 v1 K n v2 v3_3 σ
        else
          rc_lt (v2 + 1) fun v2_4 =>
          rc_lt (v3 + 1) fun v3_5 =>
          f_X0_noteYearByYear_7 rf a0 v1 K n v2_4 v3_5 σ
      else
        rc_lt (v3 + 1) fun v3_2 =>
        f_X0_noteYearByYear_7 rf a0 v1 K n v2 v3_2 σ
def f_X0_noteYearByYear (rf : rc_F) (a0 : Nat) (v1 : Int32) (σ : rc_S) : Option (Int32 × rc_S) :=
  rc_lt (σ a0 5) fun v2_1 =>
  f_X0_noteYearByYear_7 rf a0 v1 (fun v2_9 v3_10 σ_11 =>
    rc_bd (f_X0_noteOfTaste rf a0 v2_9 σ_11) fun w_12 σ_12 =>
    some (w_12, σ_12)
  ) rc_fu v2_1 (1 : Int32) σ
def f_X0_hailIn (rf : rc_F) (a0 : Nat) (v1 : Int32) (σ : rc_S) : Option (Int32 × rc_S) :=
  rc_lt ((σ a0 1) - (σ a0 2)) fun v2_1 =>
  rc_bd (f_X0_hailPart rf a0 σ) fun w_2 σ_2 =>
  some ((if ((v1 * w_2) / (100 : Int32)) < (v1 - v2_1) then (v1 - v2_1) else ((v1 * w_2) / (100 : Int32))), σ_2)
def f_X0_takeOut (rf : rc_F) (a0 : Nat) (v1 : Int32) (σ : rc_S) : Option (Int32 × rc_S) :=
  rc_bd (f_X0_hailIn rf a0 v1 σ) fun w_1 σ_1 =>
  rc_lt (rc_up σ_1 a0 1 ((σ_1 a0 1) - v1)) fun σ_2 =>
  rc_lt (rc_up σ_2 a0 2 ((σ_2 a0 2) - w_1)) fun σ_3 =>
  if (σ_3 a0 1) = 0 then
    rc_bd (f_X0_makeEmpty rf a0 σ_3) fun _ σ_4 =>
    some (w_1, σ_4)
  else
    some (w_1, σ_3)
def f_X0_pourIn (rf : rc_F) (a0 : Nat) (r1 : Nat) (v2 : Int32) (σ : rc_S) : Option (Unit × rc_S) :=
  rc_bd (f_X0_isEmpty rf a0 σ) fun w_1 σ_1 =>
  if w_1 = 0 then
    rc_bd (f_X0_takeOut rf r1 v2 σ_1) fun w_2 σ_2 =>
    rc_lt (rc_up σ_2 a0 2 ((σ_1 a0 2) + w_2)) fun σ_3 =>
    rc_lt (rc_up σ_3 a0 1 ((σ_3 a0 1) + v2)) fun σ_4 =>
    some ((), σ_4)
  else
    rc_bd (f_X0_copyVintage rf a0 r1 σ_1) fun _ σ_5 =>
    rc_bd (f_X0_takeOut rf r1 v2 σ_5) fun w_6 σ_6 =>
    rc_lt (rc_up σ_6 a0 2 ((σ_5 a0 2) + w_6)) fun σ_7 =>
    rc_lt (rc_up σ_7 a0 1 ((σ_7 a0 1) + v2)) fun σ_8 =>
    some ((), σ_8)
set_option maxHeartbeats 4000000 in
set_option maxRecDepth 100000 in
theorem k_X0_copyVintage (l : Launch) {Y : rc_Y} {sh : Nat → Nat} {rf : rc_F} (hT : rc_T Y sh rf) (a0 : Nat) (r1 : Nat) (h0 : sh a0 = 1) (hr1 : sh r1 = 1) (sz : Nat) (σ σ' : rc_S) (r : Unit) (hm : f_X0_copyVintage rf a0 r1 σ = some (r, σ')) : Met l yX0_copyVintage (Cond.code yX0_copyVintage cX0_copyVintage 2 none :: rc_big) ({ frames := 0, cells := 0, slots := 0, locals := 0 } : Room) (rc_P Y sh rf σ sz [.ref a0, .ref r1]) (va_Qv (fun (_ : Unit) => True) (fun _ t => rc_W Y sh rf σ' t.heap) (rc_A sh sz)) 0 0 (rc_A sh sz) := by
  refine Met.ofW (cc := cX0_copyVintage) (maxL := 2) (ret := none) (by decide) rfl ?_
  intro p e s m args below meth c s₁ B hml hv
  obtain ⟨rfl, hsz, hW, hK, hE⟩ := hv
  have hx := B.exec
  have hb := B.bytes
  have hr := B.returns
  have hts : ∀ w ∈ rc_big, w.before _ s = true := fun w h => atoms_spec (ws := Cond.code yX0_copyVintage cX0_copyVintage 2 none :: rc_big) B.pre w (List.mem_cons_of_mem _ h)
  have hown : s.vm.findClass RX0 = some m.cls := findClass_of_methodNamed B.named
  have hlocks := B.notSynchronized
  clear B
  subst hsz
  have hS : va_S (rc_A sh s.heap.size) s.heap s.heap [] := va_S.rf
  have hl := lv_entry ([.ref a0, .ref r1]) (n := 2) (Nat.le_of_ble_eq_true rfl)
  rw [lg_entry_eq]
  generalize (lg_sl ([.ref a0, .ref r1]) ++ List.replicate (2 - (lg_sl ([.ref a0, .ref r1])).length) Slot.unset).toArray = ls at hl ⊢
  have hl : lv_has ls 2 [(0, .ref a0), (1, .ref r1)] := hl
  unfold f_X0_copyVintage at hm
  refine lv_aload_n hx hb dX0_copyVintage_0 rfl (lv_at hl 0 rfl) ?_
  refine lv_aload_n hx hb dX0_copyVintage_1 rfl (lv_at hl 1 rfl) ?_
  refine rg_1_3 hx hb hts hown hK hW hr1 tw_1_97 dX0_copyVintage_2 ?_
  refine rp_1_3 hx hb hts hown hK hW hS h0 tw_1_97 dX0_copyVintage_5 (fun σ_1 H locs eσ hW hS => ?_)
  replace hm := rc_lt_at hm eσ
  clear eσ
  refine lv_aload_n hx hb dX0_copyVintage_8 rfl (lv_at hl 0 rfl) ?_
  refine lv_aload_n hx hb dX0_copyVintage_9 rfl (lv_at hl 1 rfl) ?_
  refine rg_1_4 hx hb hts hown hK hW hr1 tw_1_101 dX0_copyVintage_10 ?_
  refine rp_1_4 hx hb hts hown hK hW hS h0 tw_1_101 dX0_copyVintage_13 (fun σ_2 H locs eσ hW hS => ?_)
  replace hm := rc_lt_at hm eσ
  clear eσ
  refine lv_aload_n hx hb dX0_copyVintage_16 rfl (lv_at hl 0 rfl) ?_
  refine lv_aload_n hx hb dX0_copyVintage_17 rfl (lv_at hl 1 rfl) ?_
  refine rg_1_5 hx hb hts hown hK hW hr1 tw_1_103 dX0_copyVintage_18 ?_
  refine rp_1_5 hx hb hts hown hK hW hS h0 tw_1_103 dX0_copyVintage_21 (fun σ_3 H locs eσ hW hS => ?_)
  replace hm := rc_lt_at hm eσ
  clear eσ
  exact rc_evret hx hb hr hlocks hW hS (Nat.le_of_ble_eq_true rfl) (Nat.le_of_ble_eq_true rfl) hm dX0_copyVintage_24
set_option maxHeartbeats 4000000 in
set_option maxRecDepth 100000 in
theorem k_X0_copy (l : Launch) {Y : rc_Y} {sh : Nat → Nat} {rf : rc_F} (hT : rc_T Y sh rf) (a0 : Nat) (r1 : Nat) (h0 : sh a0 = 1) (hr1 : sh r1 = 1) (sz : Nat) (σ σ' : rc_S) (r : Unit) (hm : f_X0_copy rf a0 r1 σ = some (r, σ')) : Met l yX0_copy (Cond.code yX0_copy cX0_copy 2 none :: rc_big) ({ frames := 1, cells := 0, slots := 0, locals := 21 } : Room) (rc_P Y sh rf σ sz [.ref a0, .ref r1]) (va_Qv (fun (_ : Unit) => True) (fun _ t => rc_W Y sh rf σ' t.heap) (rc_A sh sz)) 0 0 (rc_A sh sz) := by
  refine Met.ofW (cc := cX0_copy) (maxL := 2) (ret := none) (by decide) rfl ?_
  intro p e s m args below meth c s₁ B hml hv
  obtain ⟨rfl, hsz, hW, hK, hE⟩ := hv
  have hx := B.exec
  have hb := B.bytes
  have hr := B.returns
  have hts : ∀ w ∈ rc_big, w.before _ s = true := fun w h => atoms_spec (ws := Cond.code yX0_copy cX0_copy 2 none :: rc_big) B.pre w (List.mem_cons_of_mem _ h)
  have hown : s.vm.findClass RX0 = some m.cls := findClass_of_methodNamed B.named
  have hlocks := B.notSynchronized
  clear B
  subst hsz
  have hS : va_S (rc_A sh s.heap.size) s.heap s.heap [] := va_S.rf
  have hl := lv_entry ([.ref a0, .ref r1]) (n := 2) (Nat.le_of_ble_eq_true rfl)
  rw [lg_entry_eq]
  generalize (lg_sl ([.ref a0, .ref r1]) ++ List.replicate (2 - (lg_sl ([.ref a0, .ref r1])).length) Slot.unset).toArray = ls at hl ⊢
  have hl : lv_has ls 2 [(0, .ref a0), (1, .ref r1)] := hl
  unfold f_X0_copy at hm
  refine lv_aload_n hx hb dX0_copy_0 rfl (lv_at hl 0 rfl) ?_
  refine lv_aload_n hx hb dX0_copy_1 rfl (lv_at hl 1 rfl) ?_
  refine rg_1_0 hx hb hts hown hK hW hr1 tw_1_85 dX0_copy_2 ?_
  refine rp_1_0 hx hb hts hown hK hW hS h0 tw_1_85 dX0_copy_5 (fun σ_1 H locs eσ hW hS => ?_)
  replace hm := rc_lt_at hm eσ
  clear eσ
  refine lv_aload_n hx hb dX0_copy_8 rfl (lv_at hl 0 rfl) ?_
  refine lv_aload_n hx hb dX0_copy_9 rfl (lv_at hl 1 rfl) ?_
  refine rg_1_1 hx hb hts hown hK hW hr1 tw_1_89 dX0_copy_10 ?_
  refine rp_1_1 hx hb hts hown hK hW hS h0 tw_1_89 dX0_copy_13 (fun σ_2 H locs eσ hW hS => ?_)
  replace hm := rc_lt_at hm eσ
  clear eσ
  refine lv_aload_n hx hb dX0_copy_16 rfl (lv_at hl 0 rfl) ?_
  refine lv_aload_n hx hb dX0_copy_17 rfl (lv_at hl 1 rfl) ?_
  refine rg_1_2 hx hb hts hown hK hW hr1 tw_1_93 dX0_copy_18 ?_
  refine rp_1_2 hx hb hts hown hK hW hS h0 tw_1_93 dX0_copy_21 (fun σ_3 H locs eσ hW hS => ?_)
  replace hm := rc_lt_at hm eσ
  clear eσ
  refine lv_aload_n hx hb dX0_copy_24 rfl (lv_at hl 0 rfl) ?_
  refine lv_aload_n hx hb dX0_copy_25 rfl (lv_at hl 1 rfl) ?_
  obtain ⟨w_4, σ_4, hc_4, hm0⟩ := rc_bd_inv hm
  clear hm
  refine rc_cv hS (va_runV (As := [.ref r1]) (rest := []) ⟨hx, hb, hml, hown, hts⟩ (k_X0_copyVintage l hT a0 r1 h0 hr1 H.size _ _ _ hc_4) (cwV 1 hts (rc_gV tw_2_135 tw_2_136 tw_2_137 tw_1_5 tw_2_138) rfl rfl rfl (by decide +kernel) ⟨Nat.le_of_ble_eq_true rfl, Nat.le_of_ble_eq_true rfl⟩) (rc_preV hT hW hK hE hS h0 (by decide) rfl (q := (RX0, TX0, 6)) rfl [.ref r1]) rfl rfl hl.1 rfl (lv_room (Nat.le_of_ble_eq_true rfl)) dX0_copy_26 ⟨Nat.le_of_ble_eq_true rfl, Nat.le_of_ble_eq_true rfl⟩) (fun H locs hW hS => ?_)
  have hm := hm0
  clear hm0 hc_4
  exact rc_evret hx hb hr hlocks hW hS (Nat.le_of_ble_eq_true rfl) (Nat.le_of_ble_eq_true rfl) hm dX0_copy_29
set_option maxHeartbeats 4000000 in
set_option maxRecDepth 100000 in
theorem k_X0_makeEmpty (l : Launch) {Y : rc_Y} {sh : Nat → Nat} {rf : rc_F} (hT : rc_T Y sh rf) (a0 : Nat) (h0 : sh a0 = 1) (sz : Nat) (σ σ' : rc_S) (r : Unit) (hm : f_X0_makeEmpty rf a0 σ = some (r, σ')) : Met l yX0_makeEmpty (Cond.code yX0_makeEmpty cX0_makeEmpty 1 none :: rc_big) ({ frames := 0, cells := 0, slots := 0, locals := 0 } : Room) (rc_P Y sh rf σ sz [.ref a0]) (va_Qv (fun (_ : Unit) => True) (fun _ t => rc_W Y sh rf σ' t.heap) (rc_A sh sz)) 0 0 (rc_A sh sz) := by
  refine Met.ofW (cc := cX0_makeEmpty) (maxL := 1) (ret := none) (by decide) rfl ?_
  intro p e s m args below meth c s₁ B hml hv
  obtain ⟨rfl, hsz, hW, hK, hE⟩ := hv
  have hx := B.exec
  have hb := B.bytes
  have hr := B.returns
  have hts : ∀ w ∈ rc_big, w.before _ s = true := fun w h => atoms_spec (ws := Cond.code yX0_makeEmpty cX0_makeEmpty 1 none :: rc_big) B.pre w (List.mem_cons_of_mem _ h)
  have hown : s.vm.findClass RX0 = some m.cls := findClass_of_methodNamed B.named
  have hlocks := B.notSynchronized
  clear B
  subst hsz
  have hS : va_S (rc_A sh s.heap.size) s.heap s.heap [] := va_S.rf
  have hl := lv_entry ([.ref a0]) (n := 1) (Nat.le_of_ble_eq_true rfl)
  rw [lg_entry_eq]
  generalize (lg_sl ([.ref a0]) ++ List.replicate (1 - (lg_sl ([.ref a0])).length) Slot.unset).toArray = ls at hl ⊢
  have hl : lv_has ls 1 [(0, .ref a0)] := hl
  unfold f_X0_makeEmpty at hm
  refine lv_aload_n hx hb dX0_makeEmpty_0 rfl (lv_at hl 0 rfl) ?_
  refine lv_iconst (v := 0) hx hb dX0_makeEmpty_1 (by decide) ?_
  refine rp_1_1 hx hb hts hown hK hW hS h0 tw_1_89 dX0_makeEmpty_2 (fun σ_1 H locs eσ hW hS => ?_)
  replace hm := rc_lt_at hm eσ
  clear eσ
  refine lv_aload_n hx hb dX0_makeEmpty_5 rfl (lv_at hl 0 rfl) ?_
  refine lv_iconst (v := 0) hx hb dX0_makeEmpty_6 (by decide) ?_
  refine rp_1_2 hx hb hts hown hK hW hS h0 tw_1_93 dX0_makeEmpty_7 (fun σ_2 H locs eσ hW hS => ?_)
  replace hm := rc_lt_at hm eσ
  clear eσ
  refine lv_aload_n hx hb dX0_makeEmpty_10 rfl (lv_at hl 0 rfl) ?_
  refine lv_iconst (v := (-1)) hx hb dX0_makeEmpty_11 (by decide) ?_
  refine rp_1_3 hx hb hts hown hK hW hS h0 tw_1_97 dX0_makeEmpty_12 (fun σ_3 H locs eσ hW hS => ?_)
  replace hm := rc_lt_at hm eσ
  clear eσ
  refine lv_aload_n hx hb dX0_makeEmpty_15 rfl (lv_at hl 0 rfl) ?_
  refine lv_iconst (v := 0) hx hb dX0_makeEmpty_16 (by decide) ?_
  refine rp_1_4 hx hb hts hown hK hW hS h0 tw_1_101 dX0_makeEmpty_17 (fun σ_4 H locs eσ hW hS => ?_)
  replace hm := rc_lt_at hm eσ
  clear eσ
  refine lv_aload_n hx hb dX0_makeEmpty_20 rfl (lv_at hl 0 rfl) ?_
  refine lv_iconst (v := 0) hx hb dX0_makeEmpty_21 (by decide) ?_
  refine rp_1_5 hx hb hts hown hK hW hS h0 tw_1_103 dX0_makeEmpty_22 (fun σ_5 H locs eσ hW hS => ?_)
  replace hm := rc_lt_at hm eσ
  clear eσ
  exact rc_evret hx hb hr hlocks hW hS (Nat.le_of_ble_eq_true rfl) (Nat.le_of_ble_eq_true rfl) hm dX0_makeEmpty_25
set_option maxHeartbeats 4000000 in
set_option maxRecDepth 100000 in
theorem k_X0_isEmpty (l : Launch) {Y : rc_Y} {sh : Nat → Nat} {rf : rc_F} (hT : rc_T Y sh rf) (a0 : Nat) (h0 : sh a0 = 1) (sz : Nat) (σ σ' : rc_S) (r : Int32) (hm : f_X0_isEmpty rf a0 σ = some (r, σ')) : Met l yX0_isEmpty (Cond.code yX0_isEmpty cX0_isEmpty 1 (some .boolean) :: rc_big) ({ frames := 0, cells := 0, slots := 0, locals := 0 } : Room) (rc_P Y sh rf σ sz [.ref a0]) (va_Qi (fun (r' : Int32) (_ : Unit) => r' = r) (fun _ t => rc_W Y sh rf σ' t.heap) (rc_A sh sz)) 0 0 (rc_A sh sz) := by
  refine Met.ofW (cc := cX0_isEmpty) (maxL := 1) (ret := (some .boolean)) (by decide) rfl ?_
  intro p e s m args below meth c s₁ B hml hv
  obtain ⟨rfl, hsz, hW, hK, hE⟩ := hv
  have hx := B.exec
  have hb := B.bytes
  have hr := B.returns
  have hts : ∀ w ∈ rc_big, w.before _ s = true := fun w h => atoms_spec (ws := Cond.code yX0_isEmpty cX0_isEmpty 1 (some .boolean) :: rc_big) B.pre w (List.mem_cons_of_mem _ h)
  have hown : s.vm.findClass RX0 = some m.cls := findClass_of_methodNamed B.named
  have hlocks := B.notSynchronized
  clear B
  subst hsz
  have hS : va_S (rc_A sh s.heap.size) s.heap s.heap [] := va_S.rf
  have hl := lv_entry ([.ref a0]) (n := 1) (Nat.le_of_ble_eq_true rfl)
  rw [lg_entry_eq]
  generalize (lg_sl ([.ref a0]) ++ List.replicate (1 - (lg_sl ([.ref a0])).length) Slot.unset).toArray = ls at hl ⊢
  have hl : lv_has ls 1 [(0, .ref a0)] := hl
  unfold f_X0_isEmpty at hm
  refine lv_aload_n hx hb dX0_isEmpty_0 rfl (lv_at hl 0 rfl) ?_
  refine rg_1_1 hx hb hts hown hK hW h0 tw_1_89 dX0_isEmpty_1 ?_
  refine lv_if_ne (tgt := 11) hx hb dX0_isEmpty_4 (by decide) (fun c_1 => ?_) (fun c_1 => ?_)
  · replace hm := rc_f hm c_1
    refine lv_iconst (v := 0) hx hb dX0_isEmpty_11 (by decide) ?_
    exact rc_ezret hx hb hr hlocks hW hS (Nat.le_of_ble_eq_true rfl) (Nat.le_of_ble_eq_true rfl) rfl hm dX0_isEmpty_12
  · replace hm := rc_t hm c_1
    refine lv_iconst (v := 1) hx hb dX0_isEmpty_7 (by decide) ?_
    refine lv_goto (tgt := 12) hx hb dX0_isEmpty_8 (by decide) ?_
    exact rc_ezret hx hb hr hlocks hW hS (Nat.le_of_ble_eq_true rfl) (Nat.le_of_ble_eq_true rfl) rfl hm dX0_isEmpty_12
set_option maxHeartbeats 4000000 in
set_option maxRecDepth 100000 in
theorem k_X0_isFreeFor (l : Launch) {Y : rc_Y} {sh : Nat → Nat} {rf : rc_F} (hT : rc_T Y sh rf) (a0 : Nat) (v1 : Int32) (h0 : sh a0 = 1) (sz : Nat) (σ σ' : rc_S) (r : Int32) (hm : f_X0_isFreeFor rf a0 v1 σ = some (r, σ')) : Met l yX0_isFreeFor (Cond.code yX0_isFreeFor cX0_isFreeFor 2 (some .boolean) :: rc_big) ({ frames := 1, cells := 0, slots := 0, locals := 20 } : Room) (rc_P Y sh rf σ sz [.ref a0, .int v1]) (va_Qi (fun (r' : Int32) (_ : Unit) => r' = r) (fun _ t => rc_W Y sh rf σ' t.heap) (rc_A sh sz)) 0 0 (rc_A sh sz) := by
  refine Met.ofW (cc := cX0_isFreeFor) (maxL := 2) (ret := (some .boolean)) (by decide) rfl ?_
  intro p e s m args below meth c s₁ B hml hv
  obtain ⟨rfl, hsz, hW, hK, hE⟩ := hv
  have hx := B.exec
  have hb := B.bytes
  have hr := B.returns
  have hts : ∀ w ∈ rc_big, w.before _ s = true := fun w h => atoms_spec (ws := Cond.code yX0_isFreeFor cX0_isFreeFor 2 (some .boolean) :: rc_big) B.pre w (List.mem_cons_of_mem _ h)
  have hown : s.vm.findClass RX0 = some m.cls := findClass_of_methodNamed B.named
  have hlocks := B.notSynchronized
  clear B
  subst hsz
  have hS : va_S (rc_A sh s.heap.size) s.heap s.heap [] := va_S.rf
  have hl := lv_entry ([.ref a0, .int v1]) (n := 2) (Nat.le_of_ble_eq_true rfl)
  rw [lg_entry_eq]
  generalize (lg_sl ([.ref a0, .int v1]) ++ List.replicate (2 - (lg_sl ([.ref a0, .int v1])).length) Slot.unset).toArray = ls at hl ⊢
  have hl : lv_has ls 2 [(0, .ref a0), (1, .int v1)] := hl
  unfold f_X0_isFreeFor at hm
  refine lv_aload_n hx hb dX0_isFreeFor_0 rfl (lv_at hl 0 rfl) ?_
  obtain ⟨w_1, σ_1, hc_1, hm0⟩ := rc_bd_inv hm
  clear hm
  refine rc_ci hS (va_runV (As := []) (rest := []) ⟨hx, hb, hml, hown, hts⟩ (k_X0_isEmpty l hT a0 h0 s.heap.size _ _ _ hc_1) (cwV 0 hts (rc_gV tw_4_194 tw_4_99 tw_4_100 tw_1_5 tw_4_101) rfl rfl rfl (by decide +kernel) ⟨Nat.le_of_ble_eq_true rfl, Nat.le_of_ble_eq_true rfl⟩) (rc_preV hT hW hK hE hS h0 (by decide) rfl (q := (RX0, TX0, 6)) rfl []) rfl rfl hl.1 rfl (lv_room (Nat.le_of_ble_eq_true rfl)) dX0_isFreeFor_1 ⟨Nat.le_of_ble_eq_true rfl, Nat.le_of_ble_eq_true rfl⟩) (fun H locs hW hS => ?_)
  have hm := hm0
  clear hm0 hc_1
  refine lv_if_ne (tgt := 15) hx hb dX0_isFreeFor_4 (by decide) (fun c_3 => ?_) (fun c_3 => ?_)
  · replace hm := rc_f hm c_3
    refine lv_iconst (v := 1) hx hb dX0_isFreeFor_15 (by decide) ?_
    refine lv_goto (tgt := 20) hx hb dX0_isFreeFor_16 (by decide) ?_
    exact rc_ezret hx hb hr hlocks hW hS (Nat.le_of_ble_eq_true rfl) (Nat.le_of_ble_eq_true rfl) rfl hm dX0_isFreeFor_20
  · replace hm := rc_t hm c_3
    refine lv_aload_n hx hb dX0_isFreeFor_7 rfl (lv_at hl 0 rfl) ?_
    refine rg_1_3 hx hb hts hown hK hW h0 tw_1_97 dX0_isFreeFor_8 ?_
    refine lv_iload_n hx hb dX0_isFreeFor_11 rfl (lv_at hl 1 rfl) ?_
    refine lv_icmp_ne (tgt := 19) hx hb dX0_isFreeFor_12 (by decide) (fun c_2 => ?_) (fun c_2 => ?_)
    · replace hm := rc_f hm c_2
      refine lv_iconst (v := 0) hx hb dX0_isFreeFor_19 (by decide) ?_
      exact rc_ezret hx hb hr hlocks hW hS (Nat.le_of_ble_eq_true rfl) (Nat.le_of_ble_eq_true rfl) rfl hm dX0_isFreeFor_20
    · replace hm := rc_t hm c_2
      refine lv_iconst (v := 1) hx hb dX0_isFreeFor_15 (by decide) ?_
      refine lv_goto (tgt := 20) hx hb dX0_isFreeFor_16 (by decide) ?_
      exact rc_ezret hx hb hr hlocks hW hS (Nat.le_of_ble_eq_true rfl) (Nat.le_of_ble_eq_true rfl) rfl hm dX0_isFreeFor_20
set_option maxHeartbeats 4000000 in
set_option maxRecDepth 100000 in
theorem k_X0_room (l : Launch) {Y : rc_Y} {sh : Nat → Nat} {rf : rc_F} (hT : rc_T Y sh rf) (a0 : Nat) (h0 : sh a0 = 1) (sz : Nat) (σ σ' : rc_S) (r : Int32) (hm : f_X0_room rf a0 σ = some (r, σ')) : Met l yX0_room (Cond.code yX0_room cX0_room 1 (some .int) :: rc_big) ({ frames := 0, cells := 0, slots := 0, locals := 0 } : Room) (rc_P Y sh rf σ sz [.ref a0]) (va_Qi (fun (r' : Int32) (_ : Unit) => r' = r) (fun _ t => rc_W Y sh rf σ' t.heap) (rc_A sh sz)) 0 0 (rc_A sh sz) := by
  refine Met.ofW (cc := cX0_room) (maxL := 1) (ret := (some .int)) (by decide) rfl ?_
  intro p e s m args below meth c s₁ B hml hv
  obtain ⟨rfl, hsz, hW, hK, hE⟩ := hv
  have hx := B.exec
  have hb := B.bytes
  have hr := B.returns
  have hts : ∀ w ∈ rc_big, w.before _ s = true := fun w h => atoms_spec (ws := Cond.code yX0_room cX0_room 1 (some .int) :: rc_big) B.pre w (List.mem_cons_of_mem _ h)
  have hown : s.vm.findClass RX0 = some m.cls := findClass_of_methodNamed B.named
  have hlocks := B.notSynchronized
  clear B
  subst hsz
  have hS : va_S (rc_A sh s.heap.size) s.heap s.heap [] := va_S.rf
  have hl := lv_entry ([.ref a0]) (n := 1) (Nat.le_of_ble_eq_true rfl)
  rw [lg_entry_eq]
  generalize (lg_sl ([.ref a0]) ++ List.replicate (1 - (lg_sl ([.ref a0])).length) Slot.unset).toArray = ls at hl ⊢
  have hl : lv_has ls 1 [(0, .ref a0)] := hl
  unfold f_X0_room at hm
  refine lv_bipush (v := 20) hx hb dX0_room_0 (by decide) ?_
  refine lv_aload_n hx hb dX0_room_2 rfl (lv_at hl 0 rfl) ?_
  refine rg_1_1 hx hb hts hown hK hW h0 tw_1_89 dX0_room_3 ?_
  refine lv_isub hx hb dX0_room_6 ?_
  exact rc_eiret hx hb hr hlocks hW hS (Nat.le_of_ble_eq_true rfl) (Nat.le_of_ble_eq_true rfl) hm dX0_room_7
set_option maxHeartbeats 4000000 in
set_option maxRecDepth 100000 in
theorem k_X0_hailPartWith (l : Launch) {Y : rc_Y} {sh : Nat → Nat} {rf : rc_F} (hT : rc_T Y sh rf) (a0 : Nat) (v1 : Int32) (h0 : sh a0 = 1) (sz : Nat) (σ σ' : rc_S) (r : Int32) (hm : f_X0_hailPartWith rf a0 v1 σ = some (r, σ')) : Met l yX0_hailPartWith (Cond.code yX0_hailPartWith cX0_hailPartWith 3 (some .int) :: rc_big) ({ frames := 0, cells := 0, slots := 0, locals := 0 } : Room) (rc_P Y sh rf σ sz [.ref a0, .int v1]) (va_Qi (fun (r' : Int32) (_ : Unit) => r' = r) (fun _ t => rc_W Y sh rf σ' t.heap) (rc_A sh sz)) 0 0 (rc_A sh sz) := by
  refine Met.ofW (cc := cX0_hailPartWith) (maxL := 3) (ret := (some .int)) (by decide) rfl ?_
  intro p e s m args below meth c s₁ B hml hv
  obtain ⟨rfl, hsz, hW, hK, hE⟩ := hv
  have hx := B.exec
  have hb := B.bytes
  have hr := B.returns
  have hts : ∀ w ∈ rc_big, w.before _ s = true := fun w h => atoms_spec (ws := Cond.code yX0_hailPartWith cX0_hailPartWith 3 (some .int) :: rc_big) B.pre w (List.mem_cons_of_mem _ h)
  have hown : s.vm.findClass RX0 = some m.cls := findClass_of_methodNamed B.named
  have hlocks := B.notSynchronized
  clear B
  subst hsz
  have hS : va_S (rc_A sh s.heap.size) s.heap s.heap [] := va_S.rf
  have hl := lv_entry ([.ref a0, .int v1]) (n := 3) (Nat.le_of_ble_eq_true rfl)
  rw [lg_entry_eq]
  generalize (lg_sl ([.ref a0, .int v1]) ++ List.replicate (3 - (lg_sl ([.ref a0, .int v1])).length) Slot.unset).toArray = ls at hl ⊢
  have hl : lv_has ls 3 [(0, .ref a0), (1, .int v1)] := hl
  unfold f_X0_hailPartWith at hm
  refine lv_aload_n hx hb dX0_hailPartWith_0 rfl (lv_at hl 0 rfl) ?_
  refine rg_1_1 hx hb hts hown hK hW h0 tw_1_89 dX0_hailPartWith_1 ?_
  refine lv_iload_n hx hb dX0_hailPartWith_4 rfl (lv_at hl 1 rfl) ?_
  refine lv_iadd hx hb dX0_hailPartWith_5 ?_
  refine lv_topi (fun v2_1 ev => ?_)
  replace hm := rc_lt_at hm ev
  clear ev
  refine lv_istore_n (lv' := [(2, .int v2_1), (0, .ref a0), (1, .int v1)]) hx hb dX0_hailPartWith_6 rfl hl (by decide) rfl (fun ls hl => ?_)
  refine lv_iload_n hx hb dX0_hailPartWith_7 rfl (lv_at hl 0 rfl) ?_
  refine lv_if_gt (tgt := 15) hx hb dX0_hailPartWith_8 (by decide) (fun c_3 => ?_) (fun c_3 => ?_)
  · replace hm := rc_t hm c_3
    refine lv_bipush (v := 100) hx hb dX0_hailPartWith_15 (by decide) ?_
    refine lv_aload_n hx hb dX0_hailPartWith_17 rfl (lv_at hl 1 rfl) ?_
    refine rg_1_2 hx hb hts hown hK hW h0 tw_1_93 dX0_hailPartWith_18 ?_
    refine lv_iload_n hx hb dX0_hailPartWith_21 rfl (lv_at hl 2 rfl) ?_
    refine lv_iadd hx hb dX0_hailPartWith_22 ?_
    refine lv_imul hx hb dX0_hailPartWith_23 ?_
    refine lv_iload_n hx hb dX0_hailPartWith_24 rfl (lv_at hl 0 rfl) ?_
    have hz_2 := (rc_nz hm).1
    replace hm := (rc_nz hm).2
    refine lv_idiv hx hb dX0_hailPartWith_25 hz_2 ?_
    exact rc_eiret hx hb hr hlocks hW hS (Nat.le_of_ble_eq_true rfl) (Nat.le_of_ble_eq_true rfl) hm dX0_hailPartWith_26
  · replace hm := rc_f hm c_3
    refine lv_iconst (v := 0) hx hb dX0_hailPartWith_11 (by decide) ?_
    refine lv_goto (tgt := 26) hx hb dX0_hailPartWith_12 (by decide) ?_
    exact rc_eiret hx hb hr hlocks hW hS (Nat.le_of_ble_eq_true rfl) (Nat.le_of_ble_eq_true rfl) hm dX0_hailPartWith_26
set_option maxHeartbeats 4000000 in
set_option maxRecDepth 100000 in
theorem k_X0_hailPart (l : Launch) {Y : rc_Y} {sh : Nat → Nat} {rf : rc_F} (hT : rc_T Y sh rf) (a0 : Nat) (h0 : sh a0 = 1) (sz : Nat) (σ σ' : rc_S) (r : Int32) (hm : f_X0_hailPart rf a0 σ = some (r, σ')) : Met l yX0_hailPart (Cond.code yX0_hailPart cX0_hailPart 1 (some .int) :: rc_big) ({ frames := 1, cells := 0, slots := 0, locals := 22 } : Room) (rc_P Y sh rf σ sz [.ref a0]) (va_Qi (fun (r' : Int32) (_ : Unit) => r' = r) (fun _ t => rc_W Y sh rf σ' t.heap) (rc_A sh sz)) 0 0 (rc_A sh sz) := by
  refine Met.ofW (cc := cX0_hailPart) (maxL := 1) (ret := (some .int)) (by decide) rfl ?_
  intro p e s m args below meth c s₁ B hml hv
  obtain ⟨rfl, hsz, hW, hK, hE⟩ := hv
  have hx := B.exec
  have hb := B.bytes
  have hr := B.returns
  have hts : ∀ w ∈ rc_big, w.before _ s = true := fun w h => atoms_spec (ws := Cond.code yX0_hailPart cX0_hailPart 1 (some .int) :: rc_big) B.pre w (List.mem_cons_of_mem _ h)
  have hown : s.vm.findClass RX0 = some m.cls := findClass_of_methodNamed B.named
  have hlocks := B.notSynchronized
  clear B
  subst hsz
  have hS : va_S (rc_A sh s.heap.size) s.heap s.heap [] := va_S.rf
  have hl := lv_entry ([.ref a0]) (n := 1) (Nat.le_of_ble_eq_true rfl)
  rw [lg_entry_eq]
  generalize (lg_sl ([.ref a0]) ++ List.replicate (1 - (lg_sl ([.ref a0])).length) Slot.unset).toArray = ls at hl ⊢
  have hl : lv_has ls 1 [(0, .ref a0)] := hl
  unfold f_X0_hailPart at hm
  refine lv_aload_n hx hb dX0_hailPart_0 rfl (lv_at hl 0 rfl) ?_
  refine lv_iconst (v := 0) hx hb dX0_hailPart_1 (by decide) ?_
  obtain ⟨w_1, σ_1, hc_1, hm0⟩ := rc_bd_inv hm
  clear hm
  refine rc_ci hS (va_runV (As := [.int (0 : Int32)]) (rest := []) ⟨hx, hb, hml, hown, hts⟩ (k_X0_hailPartWith l hT a0 (0 : Int32) h0 s.heap.size _ _ _ hc_1) (cwV 1 hts (rc_gV tw_4_215 tw_4_216 tw_4_217 tw_1_5 tw_4_218) rfl rfl rfl (by decide +kernel) ⟨Nat.le_of_ble_eq_true rfl, Nat.le_of_ble_eq_true rfl⟩) (rc_preV hT hW hK hE hS h0 (by decide) rfl (q := (RX0, TX0, 6)) rfl [.int (0 : Int32)]) rfl rfl hl.1 rfl (lv_room (Nat.le_of_ble_eq_true rfl)) dX0_hailPart_2 ⟨Nat.le_of_ble_eq_true rfl, Nat.le_of_ble_eq_true rfl⟩) (fun H locs hW hS => ?_)
  have hm := hm0
  clear hm0 hc_1
  exact rc_eiret hx hb hr hlocks hW hS (Nat.le_of_ble_eq_true rfl) (Nat.le_of_ble_eq_true rfl) hm dX0_hailPart_5
set_option maxHeartbeats 4000000 in
set_option maxRecDepth 100000 in
theorem k_X0_ageIn (l : Launch) {Y : rc_Y} {sh : Nat → Nat} {rf : rc_F} (hT : rc_T Y sh rf) (a0 : Nat) (v1 : Int32) (h0 : sh a0 = 1) (sz : Nat) (σ σ' : rc_S) (r : Int32) (hm : f_X0_ageIn rf a0 v1 σ = some (r, σ')) : Met l yX0_ageIn (Cond.code yX0_ageIn cX0_ageIn 2 (some .int) :: rc_big) ({ frames := 1, cells := 0, slots := 0, locals := 20 } : Room) (rc_P Y sh rf σ sz [.ref a0, .int v1]) (va_Qi (fun (r' : Int32) (_ : Unit) => r' = r) (fun _ t => rc_W Y sh rf σ' t.heap) (rc_A sh sz)) 0 0 (rc_A sh sz) := by
  refine Met.ofW (cc := cX0_ageIn) (maxL := 2) (ret := (some .int)) (by decide) rfl ?_
  intro p e s m args below meth c s₁ B hml hv
  obtain ⟨rfl, hsz, hW, hK, hE⟩ := hv
  have hx := B.exec
  have hb := B.bytes
  have hr := B.returns
  have hts : ∀ w ∈ rc_big, w.before _ s = true := fun w h => atoms_spec (ws := Cond.code yX0_ageIn cX0_ageIn 2 (some .int) :: rc_big) B.pre w (List.mem_cons_of_mem _ h)
  have hown : s.vm.findClass RX0 = some m.cls := findClass_of_methodNamed B.named
  have hlocks := B.notSynchronized
  clear B
  subst hsz
  have hS : va_S (rc_A sh s.heap.size) s.heap s.heap [] := va_S.rf
  have hl := lv_entry ([.ref a0, .int v1]) (n := 2) (Nat.le_of_ble_eq_true rfl)
  rw [lg_entry_eq]
  generalize (lg_sl ([.ref a0, .int v1]) ++ List.replicate (2 - (lg_sl ([.ref a0, .int v1])).length) Slot.unset).toArray = ls at hl ⊢
  have hl : lv_has ls 2 [(0, .ref a0), (1, .int v1)] := hl
  unfold f_X0_ageIn at hm
  refine lv_aload_n hx hb dX0_ageIn_0 rfl (lv_at hl 0 rfl) ?_
  obtain ⟨w_1, σ_1, hc_1, hm0⟩ := rc_bd_inv hm
  clear hm
  refine rc_ci hS (va_runV (As := []) (rest := []) ⟨hx, hb, hml, hown, hts⟩ (k_X0_isEmpty l hT a0 h0 s.heap.size _ _ _ hc_1) (cwV 0 hts (rc_gV tw_4_194 tw_4_99 tw_4_100 tw_1_5 tw_4_101) rfl rfl rfl (by decide +kernel) ⟨Nat.le_of_ble_eq_true rfl, Nat.le_of_ble_eq_true rfl⟩) (rc_preV hT hW hK hE hS h0 (by decide) rfl (q := (RX0, TX0, 6)) rfl []) rfl rfl hl.1 rfl (lv_room (Nat.le_of_ble_eq_true rfl)) dX0_ageIn_1 ⟨Nat.le_of_ble_eq_true rfl, Nat.le_of_ble_eq_true rfl⟩) (fun H locs hW hS => ?_)
  have hm := hm0
  clear hm0 hc_1
  refine lv_if_eq (tgt := 11) hx hb dX0_ageIn_4 (by decide) (fun c_2 => ?_) (fun c_2 => ?_)
  · replace hm := rc_t hm c_2
    refine lv_iload_n hx hb dX0_ageIn_11 rfl (lv_at hl 1 rfl) ?_
    refine lv_aload_n hx hb dX0_ageIn_12 rfl (lv_at hl 0 rfl) ?_
    refine rg_1_4 hx hb hts hown hK hW h0 tw_1_101 dX0_ageIn_13 ?_
    refine lv_isub hx hb dX0_ageIn_16 ?_
    exact rc_eiret hx hb hr hlocks hW hS (Nat.le_of_ble_eq_true rfl) (Nat.le_of_ble_eq_true rfl) hm dX0_ageIn_17
  · replace hm := rc_f hm c_2
    refine lv_iconst (v := 0) hx hb dX0_ageIn_7 (by decide) ?_
    refine lv_goto (tgt := 17) hx hb dX0_ageIn_8 (by decide) ?_
    exact rc_eiret hx hb hr hlocks hW hS (Nat.le_of_ble_eq_true rfl) (Nat.le_of_ble_eq_true rfl) hm dX0_ageIn_17
set_option maxHeartbeats 4000000 in
set_option maxRecDepth 100000 in
theorem k_X0_noteOfTaste (l : Launch) {Y : rc_Y} {sh : Nat → Nat} {rf : rc_F} (hT : rc_T Y sh rf) (a0 : Nat) (v1 : Int32) (h0 : sh a0 = 1) (sz : Nat) (σ σ' : rc_S) (r : Int32) (hm : f_X0_noteOfTaste rf a0 v1 σ = some (r, σ')) : Met l yX0_noteOfTaste (Cond.code yX0_noteOfTaste cX0_noteOfTaste 2 (some .int) :: rc_big) ({ frames := 2, cells := 0, slots := 0, locals := 42 } : Room) (rc_P Y sh rf σ sz [.ref a0, .int v1]) (va_Qi (fun (r' : Int32) (_ : Unit) => r' = r) (fun _ t => rc_W Y sh rf σ' t.heap) (rc_A sh sz)) 0 0 (rc_A sh sz) := by
  refine Met.ofW (cc := cX0_noteOfTaste) (maxL := 2) (ret := (some .int)) (by decide) rfl ?_
  intro p e s m args below meth c s₁ B hml hv
  obtain ⟨rfl, hsz, hW, hK, hE⟩ := hv
  have hx := B.exec
  have hb := B.bytes
  have hr := B.returns
  have hts : ∀ w ∈ rc_big, w.before _ s = true := fun w h => atoms_spec (ws := Cond.code yX0_noteOfTaste cX0_noteOfTaste 2 (some .int) :: rc_big) B.pre w (List.mem_cons_of_mem _ h)
  have hown : s.vm.findClass RX0 = some m.cls := findClass_of_methodNamed B.named
  have hlocks := B.notSynchronized
  clear B
  subst hsz
  have hS : va_S (rc_A sh s.heap.size) s.heap s.heap [] := va_S.rf
  have hl := lv_entry ([.ref a0, .int v1]) (n := 2) (Nat.le_of_ble_eq_true rfl)
  rw [lg_entry_eq]
  generalize (lg_sl ([.ref a0, .int v1]) ++ List.replicate (2 - (lg_sl ([.ref a0, .int v1])).length) Slot.unset).toArray = ls at hl ⊢
  have hl : lv_has ls 2 [(0, .ref a0), (1, .int v1)] := hl
  unfold f_X0_noteOfTaste at hm
  refine lv_iload_n hx hb dX0_noteOfTaste_0 rfl (lv_at hl 1 rfl) ?_
  refine lv_bipush (v := 100) hx hb dX0_noteOfTaste_1 (by decide) ?_
  refine lv_aload_n hx hb dX0_noteOfTaste_3 rfl (lv_at hl 0 rfl) ?_
  obtain ⟨w_1, σ_1, hc_1, hm0⟩ := rc_bd_inv hm
  clear hm
  refine rc_ci hS (va_runV (As := []) (rest := [.int (100 : Int32), .int v1]) ⟨hx, hb, hml, hown, hts⟩ (k_X0_hailPart l hT a0 h0 s.heap.size _ _ _ hc_1) (cwV 0 hts (rc_gV tw_4_211 tw_4_212 tw_4_213 tw_1_5 tw_4_214) rfl rfl rfl (by decide +kernel) ⟨Nat.le_of_ble_eq_true rfl, Nat.le_of_ble_eq_true rfl⟩) (rc_preV hT hW hK hE hS h0 (by decide) rfl (q := (RX0, TX0, 6)) rfl []) rfl rfl hl.1 rfl (lv_room (Nat.le_of_ble_eq_true rfl)) dX0_noteOfTaste_4 ⟨Nat.le_of_ble_eq_true rfl, Nat.le_of_ble_eq_true rfl⟩) (fun H locs hW hS => ?_)
  have hm := hm0
  clear hm0 hc_1
  refine lv_isub hx hb dX0_noteOfTaste_7 ?_
  refine lv_imul hx hb dX0_noteOfTaste_8 ?_
  refine lv_bipush (v := 100) hx hb dX0_noteOfTaste_9 (by decide) ?_
  refine lv_idiv hx hb dX0_noteOfTaste_11 (by decide) ?_
  exact rc_eiret hx hb hr hlocks hW hS (Nat.le_of_ble_eq_true rfl) (Nat.le_of_ble_eq_true rfl) hm dX0_noteOfTaste_12
set_option maxHeartbeats 4000000 in
set_option maxRecDepth 100000 in
theorem k_X0_noteAtAge (l : Launch) {Y : rc_Y} {sh : Nat → Nat} {rf : rc_F} (hT : rc_T Y sh rf) (a0 : Nat) (v1 : Int32) (h0 : sh a0 = 1) (sz : Nat) (σ σ' : rc_S) (r : Int32) (hm : f_X0_noteAtAge rf a0 v1 σ = some (r, σ')) : Met l yX0_noteAtAge (Cond.code yX0_noteAtAge cX0_noteAtAge 2 (some .int) :: rc_big) ({ frames := 3, cells := 0, slots := 0, locals := 63 } : Room) (rc_P Y sh rf σ sz [.ref a0, .int v1]) (va_Qi (fun (r' : Int32) (_ : Unit) => r' = r) (fun _ t => rc_W Y sh rf σ' t.heap) (rc_A sh sz)) 0 0 (rc_A sh sz) := by
  refine Met.ofW (cc := cX0_noteAtAge) (maxL := 2) (ret := (some .int)) (by decide) rfl ?_
  intro p e s m args below meth c s₁ B hml hv
  obtain ⟨rfl, hsz, hW, hK, hE⟩ := hv
  have hx := B.exec
  have hb := B.bytes
  have hr := B.returns
  have hts : ∀ w ∈ rc_big, w.before _ s = true := fun w h => atoms_spec (ws := Cond.code yX0_noteAtAge cX0_noteAtAge 2 (some .int) :: rc_big) B.pre w (List.mem_cons_of_mem _ h)
  have hown : s.vm.findClass RX0 = some m.cls := findClass_of_methodNamed B.named
  have hlocks := B.notSynchronized
  clear B
  subst hsz
  have hS : va_S (rc_A sh s.heap.size) s.heap s.heap [] := va_S.rf
  have hl := lv_entry ([.ref a0, .int v1]) (n := 2) (Nat.le_of_ble_eq_true rfl)
  rw [lg_entry_eq]
  generalize (lg_sl ([.ref a0, .int v1]) ++ List.replicate (2 - (lg_sl ([.ref a0, .int v1])).length) Slot.unset).toArray = ls at hl ⊢
  have hl : lv_has ls 2 [(0, .ref a0), (1, .int v1)] := hl
  unfold f_X0_noteAtAge at hm
  refine lv_aload_n hx hb dX0_noteAtAge_0 rfl (lv_at hl 0 rfl) ?_
  refine lv_aload_n hx hb dX0_noteAtAge_1 rfl (lv_at hl 0 rfl) ?_
  refine rg_1_5 hx hb hts hown hK hW h0 tw_1_103 dX0_noteAtAge_2 ?_
  refine lv_iload_n hx hb dX0_noteAtAge_5 rfl (lv_at hl 1 rfl) ?_
  refine lv_iconst (v := 2) hx hb dX0_noteAtAge_6 (by decide) ?_
  refine lv_idiv hx hb dX0_noteAtAge_7 (by decide) ?_
  refine lv_iadd hx hb dX0_noteAtAge_8 ?_
  refine lv_bipush (v := 9) hx hb dX0_noteAtAge_9 (by decide) ?_
  refine va_mmin hx hb (hml.trans hl.1.symm) hown (hts _ tw_5_50) (hts _ tw_2_156) (hts _ tw_1_15) (hts _ tw_2_157) (Nat.le_of_ble_eq_true rfl) (Nat.le_of_ble_eq_true rfl) (Nat.le_of_ble_eq_true rfl) (Nat.le_of_ble_eq_true rfl) dX0_noteAtAge_11 ?_
  obtain ⟨w_1, σ_1, hc_1, hm0⟩ := rc_bd_inv hm
  clear hm
  refine rc_ci hS (va_runV (As := [.int (if (9 : Int32) < ((σ a0 5) + (v1 / (2 : Int32))) then (9 : Int32) else ((σ a0 5) + (v1 / (2 : Int32))))]) (rest := []) ⟨hx, hb, hml, hown, hts⟩ (k_X0_noteOfTaste l hT a0 (if (9 : Int32) < ((σ a0 5) + (v1 / (2 : Int32))) then (9 : Int32) else ((σ a0 5) + (v1 / (2 : Int32)))) h0 s.heap.size _ _ _ hc_1) (cwV 1 hts (rc_gV tw_5_51 tw_5_53 tw_p_6 tw_1_5 tw_5_54) rfl rfl rfl (by decide +kernel) ⟨Nat.le_of_ble_eq_true rfl, Nat.le_of_ble_eq_true rfl⟩) (rc_preV hT hW hK hE hS h0 (by decide) rfl (q := (RX0, TX0, 6)) rfl [.int (if (9 : Int32) < ((σ a0 5) + (v1 / (2 : Int32))) then (9 : Int32) else ((σ a0 5) + (v1 / (2 : Int32))))]) rfl rfl hl.1 rfl (lv_room (Nat.le_of_ble_eq_true rfl)) dX0_noteAtAge_14 ⟨Nat.le_of_ble_eq_true rfl, Nat.le_of_ble_eq_true rfl⟩) (fun H locs hW hS => ?_)
  have hm := hm0
  clear hm0 hc_1
  exact rc_eiret hx hb hr hlocks hW hS (Nat.le_of_ble_eq_true rfl) (Nat.le_of_ble_eq_true rfl) hm dX0_noteAtAge_17
set_option maxHeartbeats 4000000 in
set_option maxRecDepth 100000 in
theorem k_X0_noteYearByYear (l : Launch) {Y : rc_Y} {sh : Nat → Nat} {rf : rc_F} (hT : rc_T Y sh rf) (a0 : Nat) (v1 : Int32) (h0 : sh a0 = 1) (sz : Nat) (σ σ' : rc_S) (r : Int32) (hm : f_X0_noteYearByYear rf a0 v1 σ = some (r, σ')) : Met l yX0_noteYearByYear (Cond.code yX0_noteYearByYear cX0_noteYearByYear 4 (some .int) :: rc_big) ({ frames := 3, cells := 0, slots := 0, locals := 63 } : Room) (rc_P Y sh rf σ sz [.ref a0, .int v1]) (va_Qi (fun (r' : Int32) (_ : Unit) => r' = r) (fun _ t => rc_W Y sh rf σ' t.heap) (rc_A sh sz)) 0 0 (rc_A sh sz) := by
  refine Met.ofW (cc := cX0_noteYearByYear) (maxL := 4) (ret := (some .int)) (by decide) rfl ?_
  intro p e s m args below meth c s₁ B hml hv
  obtain ⟨rfl, hsz, hW, hK, hE⟩ := hv
  have hx := B.exec
  have hb := B.bytes
  have hr := B.returns
  have hts : ∀ w ∈ rc_big, w.before _ s = true := fun w h => atoms_spec (ws := Cond.code yX0_noteYearByYear cX0_noteYearByYear 4 (some .int) :: rc_big) B.pre w (List.mem_cons_of_mem _ h)
  have hown : s.vm.findClass RX0 = some m.cls := findClass_of_methodNamed B.named
  have hlocks := B.notSynchronized
  clear B
  subst hsz
  have hS : va_S (rc_A sh s.heap.size) s.heap s.heap [] := va_S.rf
  have hl := lv_entry ([.ref a0, .int v1]) (n := 4) (Nat.le_of_ble_eq_true rfl)
  rw [lg_entry_eq]
  generalize (lg_sl ([.ref a0, .int v1]) ++ List.replicate (4 - (lg_sl ([.ref a0, .int v1])).length) Slot.unset).toArray = ls at hl ⊢
  have hl : lv_has ls 4 [(0, .ref a0), (1, .int v1)] := hl
  have lp_7 : ∀ (v1 : Int32) (K : Int32 → Int32 → rc_S → Option (Int32 × rc_S)) (hKK : ∀ (v2 v3 : Int32) (σ : rc_S) (H : Heap) (locs : List Loc) (ls : Array Slot), K v2 v3 σ = some (r, σ') → rc_W Y sh rf σ H → va_S (rc_A sh s.heap.size) s.heap H locs → lv_has ls 4 [(0, .ref a0), (2, .int v2)] → W p l e (headSpec (Cond.code yX0_noteYearByYear cX0_noteYearByYear 4 (some .int) :: rc_big) ({ frames := 3, cells := 0, slots := 0, locals := 63 } : Room)).room s m (([.ref a0, .int v1] : List Value).toArray) below meth c H locs 0 0 (MQ below (va_Qi (fun (r' : Int32) (_ : Unit) => r' = r) (fun _ t => rc_W Y sh rf σ' t.heap) (rc_A sh s.heap.size)) ([.ref a0, .int v1] : List Value).toArray s 0 0 (rc_A sh s.heap.size)) (F0 m 33 ls [])) (n : Nat) (v2 v3 : Int32) (σ : rc_S) (H : Heap) (locs : List Loc) (ls : Array Slot), f_X0_noteYearByYear_7 rf a0 v1 K n v2 v3 σ = some (r, σ') → rc_W Y sh rf σ H → va_S (rc_A sh s.heap.size) s.heap H locs → lv_has ls 4 [(0, .ref a0), (1, .int v1), (2, .int v2), (3, .int v3)] → W p l e (headSpec (Cond.code yX0_noteYearByYear cX0_noteYearByYear 4 (some .int) :: rc_big) ({ frames := 3, cells := 0, slots := 0, locals := 63 } : Room)).room s m (([.ref a0, .int v1] : List Value).toArray) below meth c H locs 0 0 (MQ below (va_Qi (fun (r' : Int32) (_ : Unit) => r' = r) (fun _ t => rc_W Y sh rf σ' t.heap) (rc_A sh s.heap.size)) ([.ref a0, .int v1] : List Value).toArray s 0 0 (rc_A sh s.heap.size)) (F0 m 7 ls []) := by
    intro v1 K hKK n
    induction n with
    | zero =>
      intro v2 v3 σ H locs ls hm
      rw [f_X0_noteYearByYear_7] at hm
      cases hm
    | succ n ih =>
      intro v2 v3 σ H locs ls hm hW hS hl
      rw [f_X0_noteYearByYear_7] at hm
      refine lv_iload_n hx hb dX0_noteYearByYear_7 rfl (lv_at hl 3 rfl) ?_
      refine lv_iload_n hx hb dX0_noteYearByYear_8 rfl (lv_at hl 1 rfl) ?_
      refine lv_icmp_gt (tgt := 33) hx hb dX0_noteYearByYear_9 (by decide) (fun c_8 => ?_) (fun c_8 => ?_)
      · replace hm := rc_t hm c_8
        exact hKK v2 v3 σ _ _ _ hm hW hS (lv_sub hl [0, 2] rfl)
      · replace hm := rc_f hm c_8
        refine lv_iload_n hx hb dX0_noteYearByYear_12 rfl (lv_at hl 3 rfl) ?_
        refine lv_iconst (v := 2) hx hb dX0_noteYearByYear_13 (by decide) ?_
        refine lv_irem hx hb dX0_noteYearByYear_14 (by decide) ?_
        refine lv_if_ne (tgt := 27) hx hb dX0_noteYearByYear_15 (by decide) (fun c_7 => ?_) (fun c_7 => ?_)
        · replace hm := rc_f hm c_7
          obtain ⟨v3_2, ev⟩ : ∃ y : Int32, y = (v3 + 1) := ⟨_, rfl⟩
          replace hm := rc_lt_at hm ev
          refine lv_iinc (v := v3_2) (lv' := [(3, .int v3_2), (0, .ref a0), (1, .int v1), (2, .int v2)]) hx hb dX0_noteYearByYear_27 hl (k := 3) rfl (by rw [ev]; rfl) (by decide) rfl (fun ls hl => ?_)
          clear ev
          refine lv_goto (tgt := 7) hx hb dX0_noteYearByYear_30 (by decide) ?_
          exact ih v2 v3_2 σ _ _ _ hm hW hS (lv_sub hl [1, 2, 3, 0] rfl)
        · replace hm := rc_t hm c_7
          refine lv_iload_n hx hb dX0_noteYearByYear_18 rfl (lv_at hl 2 rfl) ?_
          refine lv_bipush (v := 9) hx hb dX0_noteYearByYear_19 (by decide) ?_
          refine lv_icmp_ge (tgt := 27) hx hb dX0_noteYearByYear_21 (by decide) (fun c_6 => ?_) (fun c_6 => ?_)
          · replace hm := rc_t hm c_6
            obtain ⟨v3_3, ev⟩ : ∃ y : Int32, y = (v3 + 1) := ⟨_, rfl⟩
            replace hm := rc_lt_at hm ev
            refine lv_iinc (v := v3_3) (lv' := [(3, .int v3_3), (0, .ref a0), (1, .int v1), (2, .int v2)]) hx hb dX0_noteYearByYear_27 hl (k := 3) rfl (by rw [ev]; rfl) (by decide) rfl (fun ls hl => ?_)
            clear ev
            refine lv_goto (tgt := 7) hx hb dX0_noteYearByYear_30 (by decide) ?_
            exact ih v2 v3_3 σ _ _ _ hm hW hS (lv_sub hl [1, 2, 3, 0] rfl)
          · replace hm := rc_f hm c_6
            obtain ⟨v2_4, ev⟩ : ∃ y : Int32, y = (v2 + 1) := ⟨_, rfl⟩
            replace hm := rc_lt_at hm ev
            refine lv_iinc (v := v2_4) (lv' := [(2, .int v2_4), (0, .ref a0), (1, .int v1), (3, .int v3)]) hx hb dX0_noteYearByYear_24 hl (k := 2) rfl (by rw [ev]; rfl) (by decide) rfl (fun ls hl => ?_)
            clear ev
            obtain ⟨v3_5, ev⟩ : ∃ y : Int32, y = (v3 + 1) := ⟨_, rfl⟩
            replace hm := rc_lt_at hm ev
            refine lv_iinc (v := v3_5) (lv' := [(3, .int v3_5), (2, .int v2_4), (0, .ref a0), (1, .int v1)]) hx hb dX0_noteYearByYear_27 hl (k := 3) rfl (by rw [ev]; rfl) (by decide) rfl (fun ls hl => ?_)
            clear ev
            refine lv_goto (tgt := 7) hx hb dX0_noteYearByYear_30 (by decide) ?_
            exact ih v2_4 v3_5 σ _ _ _ hm hW hS (lv_sub hl [2, 3, 1, 0] rfl)
  unfold f_X0_noteYearByYear at hm
  refine lv_aload_n hx hb dX0_noteYearByYear_0 rfl (lv_at hl 0 rfl) ?_
  refine rg_1_5 hx hb hts hown hK hW h0 tw_1_103 dX0_noteYearByYear_1 ?_
  refine lv_topi (fun v2_1 ev => ?_)
  replace hm := rc_lt_at hm ev
  clear ev
  refine lv_istore_n (lv' := [(2, .int v2_1), (0, .ref a0), (1, .int v1)]) hx hb dX0_noteYearByYear_4 rfl hl (by decide) rfl (fun ls hl => ?_)
  refine lv_iconst (v := 1) hx hb dX0_noteYearByYear_5 (by decide) ?_
  refine lv_istore_n (lv' := [(3, .int (1 : Int32)), (2, .int v2_1), (0, .ref a0), (1, .int v1)]) hx hb dX0_noteYearByYear_6 rfl hl (by decide) rfl (fun ls hl => ?_)
  refine lp_7 v1 _ (fun v2_9 v3_10 σ_11 H locs ls hm hW hS hl => ?_) rc_fu v2_1 (1 : Int32) σ _ _ _ hm hW hS (lv_sub hl [2, 3, 1, 0] rfl)
  refine lv_aload_n hx hb dX0_noteYearByYear_33 rfl (lv_at hl 0 rfl) ?_
  refine lv_iload_n hx hb dX0_noteYearByYear_34 rfl (lv_at hl 1 rfl) ?_
  obtain ⟨w_12, σ_12, hc_12, hm0⟩ := rc_bd_inv hm
  clear hm
  refine rc_ci hS (va_runV (As := [.int v2_9]) (rest := []) ⟨hx, hb, hml, hown, hts⟩ (k_X0_noteOfTaste l hT a0 v2_9 h0 H.size _ _ _ hc_12) (cwV 1 hts (rc_gV tw_5_51 tw_5_53 tw_p_6 tw_1_5 tw_5_54) rfl rfl rfl (by decide +kernel) ⟨Nat.le_of_ble_eq_true rfl, Nat.le_of_ble_eq_true rfl⟩) (rc_preV hT hW hK hE hS h0 (by decide) rfl (q := (RX0, TX0, 6)) rfl [.int v2_9]) rfl rfl hl.1 rfl (lv_room (Nat.le_of_ble_eq_true rfl)) dX0_noteYearByYear_35 ⟨Nat.le_of_ble_eq_true rfl, Nat.le_of_ble_eq_true rfl⟩) (fun H locs hW hS => ?_)
  have hm := hm0
  clear hm0 hc_12
  exact rc_eiret hx hb hr hlocks hW hS (Nat.le_of_ble_eq_true rfl) (Nat.le_of_ble_eq_true rfl) hm dX0_noteYearByYear_38
set_option maxHeartbeats 4000000 in
set_option maxRecDepth 100000 in
theorem k_X0_hailIn (l : Launch) {Y : rc_Y} {sh : Nat → Nat} {rf : rc_F} (hT : rc_T Y sh rf) (a0 : Nat) (v1 : Int32) (h0 : sh a0 = 1) (sz : Nat) (σ σ' : rc_S) (r : Int32) (hm : f_X0_hailIn rf a0 v1 σ = some (r, σ')) : Met l yX0_hailIn (Cond.code yX0_hailIn cX0_hailIn 3 (some .int) :: rc_big) ({ frames := 2, cells := 0, slots := 0, locals := 42 } : Room) (rc_P Y sh rf σ sz [.ref a0, .int v1]) (va_Qi (fun (r' : Int32) (_ : Unit) => r' = r) (fun _ t => rc_W Y sh rf σ' t.heap) (rc_A sh sz)) 0 0 (rc_A sh sz) := by
  refine Met.ofW (cc := cX0_hailIn) (maxL := 3) (ret := (some .int)) (by decide) rfl ?_
  intro p e s m args below meth c s₁ B hml hv
  obtain ⟨rfl, hsz, hW, hK, hE⟩ := hv
  have hx := B.exec
  have hb := B.bytes
  have hr := B.returns
  have hts : ∀ w ∈ rc_big, w.before _ s = true := fun w h => atoms_spec (ws := Cond.code yX0_hailIn cX0_hailIn 3 (some .int) :: rc_big) B.pre w (List.mem_cons_of_mem _ h)
  have hown : s.vm.findClass RX0 = some m.cls := findClass_of_methodNamed B.named
  have hlocks := B.notSynchronized
  clear B
  subst hsz
  have hS : va_S (rc_A sh s.heap.size) s.heap s.heap [] := va_S.rf
  have hl := lv_entry ([.ref a0, .int v1]) (n := 3) (Nat.le_of_ble_eq_true rfl)
  rw [lg_entry_eq]
  generalize (lg_sl ([.ref a0, .int v1]) ++ List.replicate (3 - (lg_sl ([.ref a0, .int v1])).length) Slot.unset).toArray = ls at hl ⊢
  have hl : lv_has ls 3 [(0, .ref a0), (1, .int v1)] := hl
  unfold f_X0_hailIn at hm
  refine lv_aload_n hx hb dX0_hailIn_0 rfl (lv_at hl 0 rfl) ?_
  refine rg_1_1 hx hb hts hown hK hW h0 tw_1_89 dX0_hailIn_1 ?_
  refine lv_aload_n hx hb dX0_hailIn_4 rfl (lv_at hl 0 rfl) ?_
  refine rg_1_2 hx hb hts hown hK hW h0 tw_1_93 dX0_hailIn_5 ?_
  refine lv_isub hx hb dX0_hailIn_8 ?_
  refine lv_topi (fun v2_1 ev => ?_)
  replace hm := rc_lt_at hm ev
  clear ev
  refine lv_istore_n (lv' := [(2, .int v2_1), (0, .ref a0), (1, .int v1)]) hx hb dX0_hailIn_9 rfl hl (by decide) rfl (fun ls hl => ?_)
  refine lv_iload_n hx hb dX0_hailIn_10 rfl (lv_at hl 2 rfl) ?_
  refine lv_aload_n hx hb dX0_hailIn_11 rfl (lv_at hl 1 rfl) ?_
  obtain ⟨w_2, σ_2, hc_2, hm0⟩ := rc_bd_inv hm
  clear hm
  refine rc_ci hS (va_runV (As := []) (rest := [.int v1]) ⟨hx, hb, hml, hown, hts⟩ (k_X0_hailPart l hT a0 h0 s.heap.size _ _ _ hc_2) (cwV 0 hts (rc_gV tw_4_211 tw_4_212 tw_4_213 tw_1_5 tw_4_214) rfl rfl rfl (by decide +kernel) ⟨Nat.le_of_ble_eq_true rfl, Nat.le_of_ble_eq_true rfl⟩) (rc_preV hT hW hK hE hS h0 (by decide) rfl (q := (RX0, TX0, 6)) rfl []) rfl rfl hl.1 rfl (lv_room (Nat.le_of_ble_eq_true rfl)) dX0_hailIn_12 ⟨Nat.le_of_ble_eq_true rfl, Nat.le_of_ble_eq_true rfl⟩) (fun H locs hW hS => ?_)
  have hm := hm0
  clear hm0 hc_2
  refine lv_imul hx hb dX0_hailIn_15 ?_
  refine lv_bipush (v := 100) hx hb dX0_hailIn_16 (by decide) ?_
  refine lv_idiv hx hb dX0_hailIn_18 (by decide) ?_
  refine lv_iload_n hx hb dX0_hailIn_19 rfl (lv_at hl 2 rfl) ?_
  refine lv_iload_n hx hb dX0_hailIn_20 rfl (lv_at hl 0 rfl) ?_
  refine lv_isub hx hb dX0_hailIn_21 ?_
  refine va_mmax hx hb (hml.trans hl.1.symm) hown (hts _ tw_4_219) (hts _ tw_2_216) (hts _ tw_1_15) (hts _ tw_2_217) (Nat.le_of_ble_eq_true rfl) (Nat.le_of_ble_eq_true rfl) (Nat.le_of_ble_eq_true rfl) (Nat.le_of_ble_eq_true rfl) dX0_hailIn_22 ?_
  exact rc_eiret hx hb hr hlocks hW hS (Nat.le_of_ble_eq_true rfl) (Nat.le_of_ble_eq_true rfl) hm dX0_hailIn_25
set_option maxHeartbeats 4000000 in
set_option maxRecDepth 100000 in
theorem k_X0_takeOut (l : Launch) {Y : rc_Y} {sh : Nat → Nat} {rf : rc_F} (hT : rc_T Y sh rf) (a0 : Nat) (v1 : Int32) (h0 : sh a0 = 1) (sz : Nat) (σ σ' : rc_S) (r : Int32) (hm : f_X0_takeOut rf a0 v1 σ = some (r, σ')) : Met l yX0_takeOut (Cond.code yX0_takeOut cX0_takeOut 3 (some .int) :: rc_big) ({ frames := 3, cells := 0, slots := 0, locals := 64 } : Room) (rc_P Y sh rf σ sz [.ref a0, .int v1]) (va_Qi (fun (r' : Int32) (_ : Unit) => r' = r) (fun _ t => rc_W Y sh rf σ' t.heap) (rc_A sh sz)) 0 0 (rc_A sh sz) := by
  refine Met.ofW (cc := cX0_takeOut) (maxL := 3) (ret := (some .int)) (by decide) rfl ?_
  intro p e s m args below meth c s₁ B hml hv
  obtain ⟨rfl, hsz, hW, hK, hE⟩ := hv
  have hx := B.exec
  have hb := B.bytes
  have hr := B.returns
  have hts : ∀ w ∈ rc_big, w.before _ s = true := fun w h => atoms_spec (ws := Cond.code yX0_takeOut cX0_takeOut 3 (some .int) :: rc_big) B.pre w (List.mem_cons_of_mem _ h)
  have hown : s.vm.findClass RX0 = some m.cls := findClass_of_methodNamed B.named
  have hlocks := B.notSynchronized
  clear B
  subst hsz
  have hS : va_S (rc_A sh s.heap.size) s.heap s.heap [] := va_S.rf
  have hl := lv_entry ([.ref a0, .int v1]) (n := 3) (Nat.le_of_ble_eq_true rfl)
  rw [lg_entry_eq]
  generalize (lg_sl ([.ref a0, .int v1]) ++ List.replicate (3 - (lg_sl ([.ref a0, .int v1])).length) Slot.unset).toArray = ls at hl ⊢
  have hl : lv_has ls 3 [(0, .ref a0), (1, .int v1)] := hl
  unfold f_X0_takeOut at hm
  refine lv_aload_n hx hb dX0_takeOut_0 rfl (lv_at hl 0 rfl) ?_
  refine lv_iload_n hx hb dX0_takeOut_1 rfl (lv_at hl 1 rfl) ?_
  obtain ⟨w_1, σ_1, hc_1, hm0⟩ := rc_bd_inv hm
  clear hm
  refine rc_ci hS (va_runV (As := [.int v1]) (rest := []) ⟨hx, hb, hml, hown, hts⟩ (k_X0_hailIn l hT a0 v1 h0 s.heap.size _ _ _ hc_1) (cwV 1 hts (rc_gV tw_4_207 tw_4_209 tw_p_5 tw_1_5 tw_4_210) rfl rfl rfl (by decide +kernel) ⟨Nat.le_of_ble_eq_true rfl, Nat.le_of_ble_eq_true rfl⟩) (rc_preV hT hW hK hE hS h0 (by decide) rfl (q := (RX0, TX0, 6)) rfl [.int v1]) rfl rfl hl.1 rfl (lv_room (Nat.le_of_ble_eq_true rfl)) dX0_takeOut_2 ⟨Nat.le_of_ble_eq_true rfl, Nat.le_of_ble_eq_true rfl⟩) (fun H locs hW hS => ?_)
  have hm := hm0
  clear hm0 hc_1
  refine lv_istore_n (lv' := [(2, .int w_1), (0, .ref a0), (1, .int v1)]) hx hb dX0_takeOut_5 rfl hl (by decide) rfl (fun ls hl => ?_)
  refine lv_aload_n hx hb dX0_takeOut_6 rfl (lv_at hl 1 rfl) ?_
  refine lv_dup hx hb dX0_takeOut_7 rfl ?_
  refine rg_1_1 hx hb hts hown hK hW h0 tw_1_89 dX0_takeOut_8 ?_
  refine lv_iload_n hx hb dX0_takeOut_11 rfl (lv_at hl 2 rfl) ?_
  refine lv_isub hx hb dX0_takeOut_12 ?_
  refine rp_1_1 hx hb hts hown hK hW hS h0 tw_1_89 dX0_takeOut_13 (fun σ_2 H locs eσ hW hS => ?_)
  replace hm := rc_lt_at hm eσ
  clear eσ
  refine lv_aload_n hx hb dX0_takeOut_16 rfl (lv_at hl 1 rfl) ?_
  refine lv_dup hx hb dX0_takeOut_17 rfl ?_
  refine rg_1_2 hx hb hts hown hK hW h0 tw_1_93 dX0_takeOut_18 ?_
  refine lv_iload_n hx hb dX0_takeOut_21 rfl (lv_at hl 0 rfl) ?_
  refine lv_isub hx hb dX0_takeOut_22 ?_
  refine rp_1_2 hx hb hts hown hK hW hS h0 tw_1_93 dX0_takeOut_23 (fun σ_3 H locs eσ hW hS => ?_)
  replace hm := rc_lt_at hm eσ
  clear eσ
  refine lv_aload_n hx hb dX0_takeOut_26 rfl (lv_at hl 1 rfl) ?_
  refine rg_1_1 hx hb hts hown hK hW h0 tw_1_89 dX0_takeOut_27 ?_
  refine lv_if_ne (tgt := 37) hx hb dX0_takeOut_30 (by decide) (fun c_5 => ?_) (fun c_5 => ?_)
  · replace hm := rc_f hm c_5
    refine lv_iload_n hx hb dX0_takeOut_37 rfl (lv_at hl 0 rfl) ?_
    exact rc_eiret hx hb hr hlocks hW hS (Nat.le_of_ble_eq_true rfl) (Nat.le_of_ble_eq_true rfl) hm dX0_takeOut_38
  · replace hm := rc_t hm c_5
    refine lv_aload_n hx hb dX0_takeOut_33 rfl (lv_at hl 1 rfl) ?_
    obtain ⟨w_4, σ_4, hc_4, hm0⟩ := rc_bd_inv hm
    clear hm
    refine rc_cv hS (va_runV (As := []) (rest := []) ⟨hx, hb, hml, hown, hts⟩ (k_X0_makeEmpty l hT a0 h0 H.size _ _ _ hc_4) (cwV 0 hts (rc_gV tw_4_220 tw_4_157 tw_4_158 tw_1_5 tw_4_159) rfl rfl rfl (by decide +kernel) ⟨Nat.le_of_ble_eq_true rfl, Nat.le_of_ble_eq_true rfl⟩) (rc_preV hT hW hK hE hS h0 (by decide) rfl (q := (RX0, TX0, 6)) rfl []) rfl rfl hl.1 rfl (lv_room (Nat.le_of_ble_eq_true rfl)) dX0_takeOut_34 ⟨Nat.le_of_ble_eq_true rfl, Nat.le_of_ble_eq_true rfl⟩) (fun H locs hW hS => ?_)
    have hm := hm0
    clear hm0 hc_4
    refine lv_iload_n hx hb dX0_takeOut_37 rfl (lv_at hl 0 rfl) ?_
    exact rc_eiret hx hb hr hlocks hW hS (Nat.le_of_ble_eq_true rfl) (Nat.le_of_ble_eq_true rfl) hm dX0_takeOut_38
set_option maxHeartbeats 4000000 in
set_option maxRecDepth 100000 in
theorem k_X0_pourIn (l : Launch) {Y : rc_Y} {sh : Nat → Nat} {rf : rc_F} (hT : rc_T Y sh rf) (a0 : Nat) (r1 : Nat) (v2 : Int32) (h0 : sh a0 = 1) (hr1 : sh r1 = 1) (sz : Nat) (σ σ' : rc_S) (r : Unit) (hm : f_X0_pourIn rf a0 r1 v2 σ = some (r, σ')) : Met l yX0_pourIn (Cond.code yX0_pourIn cX0_pourIn 3 none :: rc_big) ({ frames := 4, cells := 0, slots := 0, locals := 86 } : Room) (rc_P Y sh rf σ sz [.ref a0, .ref r1, .int v2]) (va_Qv (fun (_ : Unit) => True) (fun _ t => rc_W Y sh rf σ' t.heap) (rc_A sh sz)) 0 0 (rc_A sh sz) := by
  refine Met.ofW (cc := cX0_pourIn) (maxL := 3) (ret := none) (by decide) rfl ?_
  intro p e s m args below meth c s₁ B hml hv
  obtain ⟨rfl, hsz, hW, hK, hE⟩ := hv
  have hx := B.exec
  have hb := B.bytes
  have hr := B.returns
  have hts : ∀ w ∈ rc_big, w.before _ s = true := fun w h => atoms_spec (ws := Cond.code yX0_pourIn cX0_pourIn 3 none :: rc_big) B.pre w (List.mem_cons_of_mem _ h)
  have hown : s.vm.findClass RX0 = some m.cls := findClass_of_methodNamed B.named
  have hlocks := B.notSynchronized
  clear B
  subst hsz
  have hS : va_S (rc_A sh s.heap.size) s.heap s.heap [] := va_S.rf
  have hl := lv_entry ([.ref a0, .ref r1, .int v2]) (n := 3) (Nat.le_of_ble_eq_true rfl)
  rw [lg_entry_eq]
  generalize (lg_sl ([.ref a0, .ref r1, .int v2]) ++ List.replicate (3 - (lg_sl ([.ref a0, .ref r1, .int v2])).length) Slot.unset).toArray = ls at hl ⊢
  have hl : lv_has ls 3 [(0, .ref a0), (1, .ref r1), (2, .int v2)] := hl
  unfold f_X0_pourIn at hm
  refine lv_aload_n hx hb dX0_pourIn_0 rfl (lv_at hl 0 rfl) ?_
  obtain ⟨w_1, σ_1, hc_1, hm0⟩ := rc_bd_inv hm
  clear hm
  refine rc_ci hS (va_runV (As := []) (rest := []) ⟨hx, hb, hml, hown, hts⟩ (k_X0_isEmpty l hT a0 h0 s.heap.size _ _ _ hc_1) (cwV 0 hts (rc_gV tw_4_194 tw_4_99 tw_4_100 tw_1_5 tw_4_101) rfl rfl rfl (by decide +kernel) ⟨Nat.le_of_ble_eq_true rfl, Nat.le_of_ble_eq_true rfl⟩) (rc_preV hT hW hK hE hS h0 (by decide) rfl (q := (RX0, TX0, 6)) rfl []) rfl rfl hl.1 rfl (lv_room (Nat.le_of_ble_eq_true rfl)) dX0_pourIn_1 ⟨Nat.le_of_ble_eq_true rfl, Nat.le_of_ble_eq_true rfl⟩) (fun H locs hW hS => ?_)
  have hm := hm0
  clear hm0 hc_1
  refine lv_if_eq (tgt := 12) hx hb dX0_pourIn_4 (by decide) (fun c_9 => ?_) (fun c_9 => ?_)
  · replace hm := rc_t hm c_9
    refine lv_aload_n hx hb dX0_pourIn_12 rfl (lv_at hl 0 rfl) ?_
    refine lv_dup hx hb dX0_pourIn_13 rfl ?_
    refine rg_1_2 hx hb hts hown hK hW h0 tw_1_93 dX0_pourIn_14 ?_
    refine lv_aload_n hx hb dX0_pourIn_17 rfl (lv_at hl 1 rfl) ?_
    refine lv_iload_n hx hb dX0_pourIn_18 rfl (lv_at hl 2 rfl) ?_
    obtain ⟨w_2, σ_2, hc_2, hm0⟩ := rc_bd_inv hm
    clear hm
    refine rc_ci hS (va_runV (As := [.int v2]) (rest := [.int (σ_1 a0 2), .ref a0]) ⟨hx, hb, hml, hown, hts⟩ (k_X0_takeOut l hT r1 v2 hr1 H.size _ _ _ hc_2) (cwV 1 hts (rc_gV tw_4_203 tw_4_204 tw_4_205 tw_1_5 tw_4_206) rfl rfl rfl (by decide +kernel) ⟨Nat.le_of_ble_eq_true rfl, Nat.le_of_ble_eq_true rfl⟩) (rc_preV hT hW hK hE hS hr1 (by decide) rfl (q := (RX0, TX0, 6)) rfl [.int v2]) rfl rfl hl.1 rfl (lv_room (Nat.le_of_ble_eq_true rfl)) dX0_pourIn_19 ⟨Nat.le_of_ble_eq_true rfl, Nat.le_of_ble_eq_true rfl⟩) (fun H locs hW hS => ?_)
    have hm := hm0
    clear hm0 hc_2
    refine lv_iadd hx hb dX0_pourIn_22 ?_
    refine rp_1_2 hx hb hts hown hK hW hS h0 tw_1_93 dX0_pourIn_23 (fun σ_3 H locs eσ hW hS => ?_)
    replace hm := rc_lt_at hm eσ
    clear eσ
    refine lv_aload_n hx hb dX0_pourIn_26 rfl (lv_at hl 0 rfl) ?_
    refine lv_dup hx hb dX0_pourIn_27 rfl ?_
    refine rg_1_1 hx hb hts hown hK hW h0 tw_1_89 dX0_pourIn_28 ?_
    refine lv_iload_n hx hb dX0_pourIn_31 rfl (lv_at hl 2 rfl) ?_
    refine lv_iadd hx hb dX0_pourIn_32 ?_
    refine rp_1_1 hx hb hts hown hK hW hS h0 tw_1_89 dX0_pourIn_33 (fun σ_4 H locs eσ hW hS => ?_)
    replace hm := rc_lt_at hm eσ
    clear eσ
    exact rc_evret hx hb hr hlocks hW hS (Nat.le_of_ble_eq_true rfl) (Nat.le_of_ble_eq_true rfl) hm dX0_pourIn_36
  · replace hm := rc_f hm c_9
    refine lv_aload_n hx hb dX0_pourIn_7 rfl (lv_at hl 0 rfl) ?_
    refine lv_aload_n hx hb dX0_pourIn_8 rfl (lv_at hl 1 rfl) ?_
    obtain ⟨w_5, σ_5, hc_5, hm0⟩ := rc_bd_inv hm
    clear hm
    refine rc_cv hS (va_runV (As := [.ref r1]) (rest := []) ⟨hx, hb, hml, hown, hts⟩ (k_X0_copyVintage l hT a0 r1 h0 hr1 H.size _ _ _ hc_5) (cwV 1 hts (rc_gV tw_2_135 tw_2_136 tw_2_137 tw_1_5 tw_2_138) rfl rfl rfl (by decide +kernel) ⟨Nat.le_of_ble_eq_true rfl, Nat.le_of_ble_eq_true rfl⟩) (rc_preV hT hW hK hE hS h0 (by decide) rfl (q := (RX0, TX0, 6)) rfl [.ref r1]) rfl rfl hl.1 rfl (lv_room (Nat.le_of_ble_eq_true rfl)) dX0_pourIn_9 ⟨Nat.le_of_ble_eq_true rfl, Nat.le_of_ble_eq_true rfl⟩) (fun H locs hW hS => ?_)
    have hm := hm0
    clear hm0 hc_5
    refine lv_aload_n hx hb dX0_pourIn_12 rfl (lv_at hl 0 rfl) ?_
    refine lv_dup hx hb dX0_pourIn_13 rfl ?_
    refine rg_1_2 hx hb hts hown hK hW h0 tw_1_93 dX0_pourIn_14 ?_
    refine lv_aload_n hx hb dX0_pourIn_17 rfl (lv_at hl 1 rfl) ?_
    refine lv_iload_n hx hb dX0_pourIn_18 rfl (lv_at hl 2 rfl) ?_
    obtain ⟨w_6, σ_6, hc_6, hm0⟩ := rc_bd_inv hm
    clear hm
    refine rc_ci hS (va_runV (As := [.int v2]) (rest := [.int (σ_5 a0 2), .ref a0]) ⟨hx, hb, hml, hown, hts⟩ (k_X0_takeOut l hT r1 v2 hr1 H.size _ _ _ hc_6) (cwV 1 hts (rc_gV tw_4_203 tw_4_204 tw_4_205 tw_1_5 tw_4_206) rfl rfl rfl (by decide +kernel) ⟨Nat.le_of_ble_eq_true rfl, Nat.le_of_ble_eq_true rfl⟩) (rc_preV hT hW hK hE hS hr1 (by decide) rfl (q := (RX0, TX0, 6)) rfl [.int v2]) rfl rfl hl.1 rfl (lv_room (Nat.le_of_ble_eq_true rfl)) dX0_pourIn_19 ⟨Nat.le_of_ble_eq_true rfl, Nat.le_of_ble_eq_true rfl⟩) (fun H locs hW hS => ?_)
    have hm := hm0
    clear hm0 hc_6
    refine lv_iadd hx hb dX0_pourIn_22 ?_
    refine rp_1_2 hx hb hts hown hK hW hS h0 tw_1_93 dX0_pourIn_23 (fun σ_7 H locs eσ hW hS => ?_)
    replace hm := rc_lt_at hm eσ
    clear eσ
    refine lv_aload_n hx hb dX0_pourIn_26 rfl (lv_at hl 0 rfl) ?_
    refine lv_dup hx hb dX0_pourIn_27 rfl ?_
    refine rg_1_1 hx hb hts hown hK hW h0 tw_1_89 dX0_pourIn_28 ?_
    refine lv_iload_n hx hb dX0_pourIn_31 rfl (lv_at hl 2 rfl) ?_
    refine lv_iadd hx hb dX0_pourIn_32 ?_
    refine rp_1_1 hx hb hts hown hK hW hS h0 tw_1_89 dX0_pourIn_33 (fun σ_8 H locs eσ hW hS => ?_)
    replace hm := rc_lt_at hm eσ
    clear eσ
    exact rc_evret hx hb hr hlocks hW hS (Nat.le_of_ble_eq_true rfl) (Nat.le_of_ble_eq_true rfl) hm dX0_pourIn_36
