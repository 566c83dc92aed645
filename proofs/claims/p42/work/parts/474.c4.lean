def rl_Pn (Y : rc_Y) (ω : rc_O) (x t : Nat) (av : List Value) : Array Value → State → Prop := va_Pc av (fun U => U.heap.size = x + 1 ∧ rc_V Y (rl_o ω x (rl_0 t)) U.heap ∧ va_K Y.2.1 vwCl (rc_tys Y.2.2.1) U ∧ rc_E Y U U.heap)
theorem rl_blindn {Y : rc_Y} {ω : rc_O} {x t : Nat} {av : List Value} : FrameBlind (rl_Pn Y ω x t av) := by
  intro a U g mk q
  obtain ⟨q0, q1, qW, qK, qE⟩ := q
  refine ⟨q0, q1, qW, va_K.moved (u := U) (U := U.calling g mk a) (Vm.Alike.refl U.vm) qK, rc_E.heap (s := U) (U := U.calling g mk a) (H := U.heap) qE (Vm.Alike.refl U.vm) (fun w hw => ?_) (fun i hi => vk_R.same (u := U) rfl (rc_E_R qE i hi)) (Nat.le_refl _) (fun _ _ _ => rfl)⟩
  have hwk := (List.mem_filter.mp hw).2
  refine va_Nw.same (u := U) ?_ rfl (rc_E_nw qE w hw)
  cases w <;> first | rfl | cases hwk
theorem rl_pren {s : State} {H : Heap} {locs : List Loc} {Y : rc_Y} {ω : rc_O} {x : Nat} {x0 t : Nat} (hx0 : Y.1 ≤ x0) (hK : va_K Y.2.1 vwCl (rc_tys Y.2.2.1) s) (hE : rc_E Y s s.heap) (hV : rc_V Y (rl_o ω x (rl_0 t)) H) (hz : H.size = x + 1) (hS : va_S (fun q => x0 ≤ q) s.heap H locs) (As : List Value) : PreS s H (rl_Pn Y ω x t As) As :=
  ⟨rl_blindn, fun U hU hW => ⟨rfl, by rw [hU]; exact hz, by rw [hU]; exact hV, va_K.moved hW.alike hK, hE.go hW (by rw [hU]; exact hS.1) (fun q h1 h2 => by rw [hU]; exact hS.2.1 q h1 (fun h3 => h2 (Nat.le_trans hx0 h3)))⟩⟩
set_option maxHeartbeats 8000000 in
set_option maxRecDepth 100000 in
theorem kd_J5_init_d00df (l : Launch) {Y : rc_Y} (ω : rc_O) (x : Nat) (hx0 : Y.1 ≤ x) : Met l yJ5_init_d00df (Cond.code yJ5_init_d00df cJ5_init_d00df 2 none :: rc_big) ({ frames := 1, cells := 1, slots := 16, locals := 12 } : Room) (rl_Pn Y ω x 11 [.ref x, .int (16 : Int32)]) (va_Qv (fun _ : Unit => True) (rl_B Y ω x g_J5_init_d00df 2) (fun q => x ≤ q)) 1 16 (fun q => x ≤ q) := by
  refine rc_ofWF (cc := cJ5_init_d00df) (maxL := 2) (ret := none) (by decide +kernel) rfl ?_
  intro p e s m args below meth c s₁ B hml hv
  obtain ⟨rfl, hz, hV, hK, hE⟩ := hv
  have hx := B.exec
  have hb := B.bytes
  have hr := B.returns
  have hts : ∀ w ∈ rc_big, w.before _ s = true := fun w h => atoms_spec (ws := Cond.code yJ5_init_d00df cJ5_init_d00df 2 none :: rc_big) B.pre w (List.mem_cons_of_mem _ h)
  have hown : s.vm.findClass RJ5 = some m.cls := findClass_of_methodNamed B.named
  have hin : meth.name = "<init>" := (name_of_methodNamed B.named B.method).1
  have hlocks := B.notSynchronized
  clear B
  have hS : va_S (fun q => x ≤ q) s.heap s.heap [] := va_S.rf
  have hl := lv_entry ([.ref x, .int (16 : Int32)]) (n := 2) (Nat.le_of_ble_eq_true rfl)
  rw [lg_entry_eq]
  generalize (lg_sl ([.ref x, .int (16 : Int32)]) ++ List.replicate (2 - (lg_sl ([.ref x, .int (16 : Int32)])).length) Slot.unset).toArray = ls at hl ⊢
  have hl : lv_has ls 2 [(0, .ref x), (1, .int (16 : Int32))] := hl
  refine lv_aload_n hx hb dJ5_init_d00df_0 rfl (lv_at hl 0 rfl) ?_
  refine W.objInit hx hb hown (hts _ tw_2_57) (hts _ tw_1_40) (hts _ tw_1_41) rfl (by rw [hml]; exact hl.1) rfl dJ5_init_d00df_1 (Nat.le_of_ble_eq_true rfl) (Nat.le_of_ble_eq_true rfl) ?_
  refine W.eq (g2 := F0 m 4 ls []) rfl ?_
  refine va_gets hx hb (rc_E_cs hE) (rl_SB hx0 hS) hown (hts _ tw_2_58) (fun _ h => h) dJ5_init_d00df_4 ?_
  refine lv_if_eq (tgt := 25) hx hb dJ5_init_d00df_7 (by decide) (fun c9 => absurd c9 (by decide)) (fun _ => ?_)
  refine lv_aload_n hx hb dJ5_init_d00df_10 rfl (lv_at hl 0 rfl) ?_
  refine lv_iload_n hx hb dJ5_init_d00df_11 rfl (lv_at hl 1 rfl) ?_
  refine rl_newa hx hb (atype := .byte) (hts _ tw_2_81) (ty := .byte) rfl hK hV hz hS 3 rfl (fun _ h => nomatch h) 24 (N' := 16) rfl rfl (by decide) (by decide) (by decide) (Nat.le_of_ble_eq_true rfl) (Nat.le_of_ble_eq_true rfl) dJ5_init_d00df_12 (fun H hV hz hS => ?_)
  refine pr_11_0 (j := 0) (o := 1) hx hb hts hown hK hV hz hS (by decide) (by decide +kernel) tw_2_67 dJ5_init_d00df_14 (fun H locs hV hz hS => ?_)
  refine lv_aload_n hx hb dJ5_init_d00df_17 rfl (lv_at hl 0 rfl) ?_
  refine lv_iconst (v := 0) hx hb dJ5_init_d00df_18 (by decide) ?_
  refine pi_11_1 (j := 0) hx hb hts hown hK hV hz hS (by decide +kernel) tw_2_68 rfl rfl dJ5_init_d00df_19 (fun H locs hV hz hS => ?_)
  refine lv_goto (tgt := 38) hx hb dJ5_init_d00df_22 (by decide) ?_
  exact rl_vret (M := g_J5_init_d00df) (N := 2) (mc := 1) (ms := 16) hx hb hr hlocks hV hz hS dJ5_init_d00df_38

set_option maxHeartbeats 8000000 in
set_option maxRecDepth 100000 in
theorem kd_J4_init_da8c8 (l : Launch) {Y : rc_Y} (ω : rc_O) (x : Nat) (hx0 : Y.1 ≤ x) : Met l yJ4_init_da8c8 (Cond.code yJ4_init_da8c8 cJ4_init_da8c8 1 none :: rc_big) ({ frames := 2, cells := 1, slots := 16, locals := 33 } : Room) (rl_Pn Y ω x 11 [.ref x]) (va_Qv (fun _ : Unit => True) (rl_B Y ω x g_J4_init_da8c8 2) (fun q => x ≤ q)) 1 16 (fun q => x ≤ q) := by
  refine rc_ofWF (cc := cJ4_init_da8c8) (maxL := 1) (ret := none) (by decide +kernel) rfl ?_
  intro p e s m args below meth c s₁ B hml hv
  obtain ⟨rfl, hz, hV, hK, hE⟩ := hv
  have hx := B.exec
  have hb := B.bytes
  have hr := B.returns
  have hts : ∀ w ∈ rc_big, w.before _ s = true := fun w h => atoms_spec (ws := Cond.code yJ4_init_da8c8 cJ4_init_da8c8 1 none :: rc_big) B.pre w (List.mem_cons_of_mem _ h)
  have hown : s.vm.findClass RJ4 = some m.cls := findClass_of_methodNamed B.named
  have hin : meth.name = "<init>" := (name_of_methodNamed B.named B.method).1
  have hlocks := B.notSynchronized
  clear B
  have hS : va_S (fun q => x ≤ q) s.heap s.heap [] := va_S.rf
  have hl := lv_entry ([.ref x]) (n := 1) (Nat.le_of_ble_eq_true rfl)
  rw [lg_entry_eq]
  generalize (lg_sl ([.ref x]) ++ List.replicate (1 - (lg_sl ([.ref x])).length) Slot.unset).toArray = ls at hl ⊢
  have hl : lv_has ls 1 [(0, .ref x)] := hl
  refine lv_aload_n hx hb dJ4_init_da8c8_0 rfl (lv_at hl 0 rfl) ?_
  refine lv_bipush (v := 16) hx hb dJ4_init_da8c8_1 (by decide) ?_
  refine va_callv (va_runI (As := [.int (16 : Int32)]) (rest := []) ⟨hx, hb, hml, hown, hts⟩ (kd_J5_init_d00df l ω x hx0) (cwI 1 hts (rc_gI tw_2_56) rfl rfl rfl (hts _ tw_1_10) (hts _ tw_2_54) (hts _ tw_2_55) rfl (by decide +kernel) ⟨Nat.le_of_ble_eq_true rfl, Nat.le_of_ble_eq_true rfl⟩) (rl_pren hx0 hK hE hV hz hS (.ref x :: [.int (16 : Int32)])) rfl rfl hl.1 rfl (lv_room (Nat.le_of_ble_eq_true rfl)) dJ4_init_da8c8_3 ⟨Nat.le_of_ble_eq_true rfl, Nat.le_of_ble_eq_true rfl⟩) hS (fun q _ h => h) (fun q h => h) (fun u t H locs ht _ _ hB _ _ hS => ?_)
  have hV : rc_V Y (rl_o ω x g_J5_init_d00df) H := by rw [← ht]; exact hB.1
  have hz : H.size = x + 2 := by rw [← ht]; exact hB.2
  clear hB
  exact rl_vret (M := g_J4_init_da8c8) (N := 2) (mc := 1) (ms := 16) hx hb hr hlocks hV hz hS dJ4_init_da8c8_6

/-! A NEW StringBuilder beside worlds -/
def rc_o0 : rc_O := fun _ => (0, (fun _ => 0), (fun _ => 0))
theorem rc_sb0 {Y : rc_Y} {x : Nat} {H : Heap} (hat : va_at Y.2.1 vwCl (x, .inr (1, [.null, .int 0, .int 0, .int 0])) H) : rc_V Y (rl_o rc_o0 x (rl_0 11)) H := by
  intro b hb
  by_cases h1 : b < x
  · exfalso; apply hb; unfold rl_o; rw [if_pos h1]; rfl
  · by_cases h2 : b = x
    · subst h2
      have e := rl_at (ω := rc_o0) (x := b) (L := rl_0 11) 0
      rw [show b + 0 = b from rfl] at e
      rw [e]
      exact hat
    · exfalso
      apply hb
      unfold rl_o
      rw [if_neg h1]
      show (rl_0 11 (b - x)).1 = 0
      unfold rl_0
      rw [if_neg (by omega)]
theorem rc_sb1 {Y : rc_Y} {x : Nat} {H : Heap} (hV : rc_V Y (rl_o rc_o0 x g_J4_init_da8c8) H) : va_at Y.2.1 vwCl (x, .inr (1, [.ref (x + 1), .int 0, .int 0, .int 0])) H ∧ va_at Y.2.1 vwCl (x + 1, .inl (Y.2.2.1 3, 16, .inl (fun _ => 0))) H := by
  have e0 := rl_at (ω := rc_o0) (x := x) (L := g_J4_init_da8c8) 0
  have e1 := rl_at (ω := rc_o0) (x := x) (L := g_J4_init_da8c8) 1
  have h0 := hV (x + 0) (by rw [e0]; show (g_J4_init_da8c8 0).1 ≠ 0; decide)
  have h1 := hV (x + 1) (by rw [e1]; show (g_J4_init_da8c8 1).1 ≠ 0; decide)
  rw [e0] at h0
  rw [e1] at h1
  refine ⟨?_, ?_⟩
  · have q : rl_q x (g_J4_init_da8c8 0).2.1 0 = x + 1 := by unfold rl_q; rw [if_neg (by decide)]; rfl
    have w : rc_Cv Y.2.2.1 11 (g_J4_init_da8c8 0).2.2 (rl_q x (g_J4_init_da8c8 0).2.1) = .inr (1, [.ref (x + 1), .int 0, .int 0, .int 0]) := by
      show Sum.inr _ = _
      rw [q, rc_on_ne (by omega)]
      rfl
    rw [← w]
    exact h0
  · have w : rc_Cv Y.2.2.1 24 (g_J4_init_da8c8 1).2.2 (rl_q x (g_J4_init_da8c8 1).2.1) = .inl (Y.2.2.1 3, 16, .inl (fun _ => 0)) := by
      show Sum.inl _ = _
      congr 3
    rw [← w]
    exact h1
/-- the small world and one StringBuilder more -/
theorem rc_sbW {Y : rc_Y} {sh : Nat → Nat} {rf : rc_F} {σ : rc_S} {H H2 : Heap} {x : Nat} (hW : rc_W Y sh rf σ H) (hx : H.size ≤ x) (hq : ∀ q : Nat, q < H.size → H2[q]? = H[q]?) (hV : rc_V Y (rl_o rc_o0 x g_J4_init_da8c8) H2) : rc_W Y (rc_xs (rc_xs sh (x + 1) 24) x 11) (rc_xr rf x (x + 1)) (rc_row (rc_row σ (x + 1) (fun _ => 0)) x (fun _ => 0)) H2 := by
  have h := rc_sb1 hV
  have z : ∀ q, H.size ≤ q → sh q = 0 := fun q hq => Classical.byContradiction (fun e => by have := hW.lt e; omega)
  have w1 : rc_W Y (rc_xs sh (x + 1) 24) rf (rc_row σ (x + 1) (fun _ => 0)) H2 := rc_xsW (σ1 := rc_row σ (x + 1) (fun _ => 0)) hW (z _ (by omega)) (fun q h => hq q (hW.lt h)) (by unfold rc_row; rw [if_pos rfl]; exact h.2) (fun q h => if_neg h) (fun _ _ => rfl)
  refine rc_xsW (σ1 := rc_row (rc_row σ (x + 1) (fun _ => 0)) x (fun _ => 0)) (rf1 := rc_xr rf x (x + 1)) w1 (by rw [rc_xs_n (by omega)]; exact z _ hx) (fun _ _ => rfl) ?_ (fun q h => if_neg h) (fun q h => rc_xr_n h)
  unfold rc_row
  rw [if_pos rfl, show rc_xr rf x (x + 1) x = fun _ => x + 1 from funext fun _ => if_pos rfl]
  exact h.1
theorem rc_T0 {Y : rc_Y} : rc_T Y (fun _ => 0) (fun _ _ => 0) := by
  intro a
  refine ⟨fun h => absurd rfl h, ?_, ?_, ?_, ?_, ?_, ?_, ?_, ?_, ?_, ?_, ?_, ?_, ?_, ?_⟩ <;> (intro h; simp at h)
theorem rc_W0 {Y : rc_Y} {H : Heap} : rc_W Y (fun _ => 0) (fun _ _ => 0) (fun _ _ => 0) H := fun a h => absurd rfl h
