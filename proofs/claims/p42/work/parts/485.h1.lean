theorem tw_1_34 : (Jvm.Cond.classLink "RainCellarLaw" (15 : Nat) "RainCellar") ∈ rc_big := rc_mem (rc_m1 34 (by decide +kernel)) rfl
theorem tw_1_35 : (Jvm.Cond.instantiable "RainCellar" (9 : Nat)) ∈ rc_big := rc_mem (rc_m1 35 (by decide +kernel)) rfl
theorem tw_1_36 : (Jvm.Cond.methodLink "RainCellarLaw" (162 : Nat) ({ cls := "RainCellar", name := "<init>", desc := "()V" } : Jvm.MethodName)) ∈ rc_big := rc_mem (rc_m1 36 (by decide +kernel)) rfl
theorem tw_1_37 : (Jvm.Cond.instanceMethod ({ cls := "RainCellar", name := "<init>", desc := "()V" } : Jvm.MethodName)) ∈ rc_big := rc_mem (rc_m1 37 (by decide +kernel)) rfl
theorem tw_1_38 : (Jvm.Cond.code ({ cls := "RainCellar", name := "<init>", desc := "()V" } : Jvm.MethodName) prog_1_method_1_code (1 : Nat) (Option.none : Option Jvm.ClassFile.FieldType)) ∈ rc_big := rc_mem (rc_m1 38 (by decide +kernel)) rfl
/-! THE LAW: its entry -/
theorem rl_c0 {L M : rl_L} : rl_c L 0 M = M := by
  funext j
  unfold rl_c
  rw [if_neg (Nat.not_lt_zero j), Nat.sub_zero]
  refine Prod.ext rfl (Prod.ext ?_ rfl)
  funext k
  show rl_q 0 (M j).2.1 k = (M j).2.1 k
  unfold rl_q
  by_cases h : (M j).2.1 k = 0
  · rw [if_pos h, h]
  · rw [if_neg h, Nat.zero_add]
set_option maxHeartbeats 8000000 in
set_option maxRecDepth 100000 in
/-- from the entry to the end -/
theorem lx_entry {p : Program} {l : Launch} {e : Env} {s : State} {m : MethodId} {below : List Frame} {meth : Method} {c : Code} {Q : State → Prop} {D : va_G} {cy : Nat → ClassId} {tx : Nat → Nat} {x b L : Nat} {xs : Nat → Int32} (hx : p.tables.exec = Jvm.exec) (hb : c.code = cL_law) (hml : c.maxLocals = 24) (hown : s.vm.findClass RL = some m.cls) (hts : ∀ w ∈ rc_big, w.before #[Value.ref b] s = true) (hX : va_X b L xs s s.heap) (hbl : b < s.heap.size) (hL : L ≤ 260) (hxe : x = s.heap.size)
    (hK : va_K D vwCl (rc_tys cy) s) (hE : rc_E (x, D, cy, tx) s s.heap) (hNc : rc_N s) (hAO : rl_AO s) (hl9 : l.stackTraces = false)
    (hal : (Cond.arrayClass .long).before #[Value.ref b] s = true)
    (ke : ∀ (pc : Nat), decode cL_law pc = .ok (.ireturn, 1) → ∀ (H1 : Heap) (locs1 : List Loc) (ls1 : Array Slot) (ce sl : Nat), ce ≤ 600390 → sl ≤ 7290679 → (∀ q ∈ locs1, s.heap.size ≤ q.base) → W p l e room_1 s m #[Value.ref b] below meth c H1 locs1 ce sl Q (F0 m pc ls1 [.int 1])) :
    W p l e room_1 s m #[Value.ref b] below meth c s.heap [] 0 0 Q (entryFrame m ([Value.ref b] : List Value).toArray 24) := by
  have hl := lv_entry ([.ref b]) (n := 24) (Nat.le_of_ble_eq_true rfl)
  rw [lg_entry_eq]
  generalize (lg_sl ([.ref b]) ++ List.replicate (24 - (lg_sl ([.ref b])).length) Slot.unset).toArray = ls at hl ⊢
  have hl : lv_has ls 24 [(0, .ref b)] := hl
  have hS : va_S (fun q => x ≤ q) s.heap s.heap [] := va_S.rf
  have hz : s.heap.size = x + 0 := hxe.symm
  have hV : rc_V (x, D, cy, tx) (rl_o (fun _ => (0, (fun _ => 0), (fun _ => 0))) x (fun _ => (0, (fun _ => 0), (fun _ => 0)))) s.heap := fun a ha => absurd (by
    unfold rl_o
    by_cases h : a < x
    · rw [if_pos h]
    · rw [if_neg h]) ha
  refine rl_newo (n := 0) (C := RX8) (T := TX8) (N := 9) hx hb hts in_9 tyX8 tyX8_ok hown (hts _ tw_1_34) (hts _ tw_1_35) (hts _ tw_1_1) hK hV hz hS (ci := 12) rfl 9 rfl (fun j hj => by
      rcases (show j = 0 ∨ j = 1 ∨ j = 2 ∨ j = 3 ∨ j = 4 ∨ j = 5 ∨ j = 6 ∨ j = 7 ∨ j = 8 by omega) with rfl | rfl | rfl | rfl | rfl | rfl | rfl | rfl | rfl <;> rfl) (Nat.le_of_ble_eq_true rfl) (Nat.le_of_ble_eq_true rfl) dL_law_0 (fun H hV hz hS => ?_)
  refine lv_dup hx hb dL_law_3 rfl ?_
  refine rl_call (n := 0) (N := 308) (M := g_X8_init) (va_runI (As := []) (rest := [.ref (x + 0)]) ⟨hx, hb, hml, hown, hts⟩ (kc_X8_init l (rl_o (fun _ => (0, (fun _ => 0), (fun _ => 0))) x _) (x + 0) (Nat.le_add_right x 0)) (cwI 0 hts (rc_gI tw_1_38) rfl rfl rfl (hts _ tw_1_1) (hts _ tw_1_36) (hts _ tw_1_37) rfl (by decide +kernel) ⟨Nat.le_of_ble_eq_true rfl, Nat.le_of_ble_eq_true rfl⟩) (rl_pre (Nat.le_refl x) hK hE hAO hV hz hS [.ref (x + 0)]) rfl rfl hl.1 rfl (lv_room (Nat.le_of_ble_eq_true rfl)) dL_law_4 ⟨Nat.le_of_ble_eq_true rfl, Nat.le_of_ble_eq_true rfl⟩) (Nat.le_add_right x 0) hS (fun H locs hV hz hS => ?_)
  refine lv_astore_n (lv' := [(1, .ref (x + 0)), (0, .ref b)]) hx hb dL_law_7 rfl hl (by decide) rfl (fun ls hl => ?_)
  rw [rl_c0] at hV
  have hz : H.size = x + 308 := hz.trans (by omega)
  have hW := w_W (ω := fun _ => (0, (fun _ => 0), (fun _ => 0))) hV
  clear hV
  refine lv_bipush (v := 60) hx hb dL_law_8 (by decide) ?_
  refine va_newaK (atype := .long) hx hb hal rfl dL_law_10 rfl (n := 60) (N := 60) (by decide) (by decide) (Nat.le_of_ble_eq_true rfl) (Nat.le_of_ble_eq_true rfl) (Nat.le_of_ble_eq_true rfl) (h := x + 308) hz (fun H1 dL e1 z1 o1 hAr hNm => ?_)
  have hK2 : va_K D vwCl [(dL, .long)] s := ⟨hK.1, fun k q hk => by
    have h0 : k < 1 := (List.getElem?_eq_some_iff.mp hk).1
    rw [show k = 0 by omega] at hk
    cases hk
    exact ⟨hAr, hNm⟩⟩
  have hO : va_P D vwCl (rc_ro dL (x + 308) (fun _ => 0)) H1 := fun k q hk => by
    have h0 : k < 1 := (List.getElem?_eq_some_iff.mp hk).1
    rw [show k = 0 by omega] at hk
    cases hk
    show H1[x + 308]? = some (vp_cell _ _)
    rw [vp_cell_l]
    exact e1
  have hW := hW.kept (H1 := H1) (fun a ha => o1 a (by rw [← hz]; exact hW.lt ha))
  have hS : va_S (fun q => x ≤ q) s.heap H1 locs := ⟨by rw [z1, hxe]; omega, fun q h1 h2 => (o1 q (by omega)).trans (hS.2.1 q h1 h2), hS.2.2⟩
  clear e1 o1
  refine W.eq (g2 := F0 m 12 ls [.ref (x + 308)]) rfl ?_
  refine lv_astore_n (lv' := [(2, .ref (x + 308)), (1, .ref (x + 0)), (0, .ref b)]) hx hb dL_law_12 rfl hl (by decide) rfl (fun ls hl => ?_)
  obtain ⟨σ', hm⟩ := pl_law (x := x) (z := (b, L, xs)) hL
  exact lx_law hl9 (Y := (x, D, cy, tx)) (sh := w_sh x) (rf := w_rf x) (w_T (Nat.le_refl x)) (b, L, xs) hx hb hml hown hts hK hE hNc ⟨hX, by show b < x; omega⟩ dL (x + 308) x (w_sh0 (Nat.le_refl _)) (Or.inr (by omega)) hK2 w_sh9
    (fun pc hd H1 locs1 ls1 ce sl h1 h2 h3 => ke pc hd H1 locs1 ls1 ce sl h1 h2 (fun q hq => by
      rcases h3.2.2 q hq with h | h
      · rw [← hxe]
        exact ((w_T (Y := (x, D, cy, tx)) (Nat.le_refl x)) _).1 h
      · exact h))
    H1 locs ls (w_σ x) σ' (fun _ => 0) hm hW hO ⟨hS.1, fun q h1 h2 => hS.2.1 q h1 (fun h3 => h2 (Or.inr (by rw [← hxe]; exact h3))), fun q h => Or.inr (by rw [← hxe]; exact hS.2.2 q h)⟩ hl
