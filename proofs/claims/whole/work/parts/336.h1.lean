theorem tw_1_35 : (Jvm.Cond.classLink "RainCellarLaw" (8 : Nat) "RainCellar") ∈ rc_big := rc_mem (rc_m1 35 (by decide +kernel)) rfl
theorem tw_1_36 : (Jvm.Cond.instantiable "RainCellar" (9 : Nat)) ∈ rc_big := rc_mem (rc_m1 36 (by decide +kernel)) rfl
theorem tw_1_37 : (Jvm.Cond.methodLink "RainCellarLaw" (133 : Nat) ({ cls := "RainCellar", name := "<init>", desc := "()V" } : Jvm.MethodName)) ∈ rc_big := rc_mem (rc_m1 37 (by decide +kernel)) rfl
theorem tw_1_38 : (Jvm.Cond.instanceMethod ({ cls := "RainCellar", name := "<init>", desc := "()V" } : Jvm.MethodName)) ∈ rc_big := rc_mem (rc_m1 38 (by decide +kernel)) rfl
theorem tw_1_39 : (Jvm.Cond.code ({ cls := "RainCellar", name := "<init>", desc := "()V" } : Jvm.MethodName) prog_1_method_1_code (1 : Nat) (Option.none : Option Jvm.ClassFile.FieldType)) ∈ rc_big := rc_mem (rc_m1 39 (by decide +kernel)) rfl
theorem tw_7_63 : (Jvm.Cond.classLink "RainCellarLaw" (134 : Nat) "RainCellarModel") ∈ rc_big := rc_mem (rc_m7 63 (by decide +kernel)) rfl
theorem tw_7_64 : (Jvm.Cond.instantiable "RainCellarModel" (22 : Nat)) ∈ rc_big := rc_mem (rc_m7 64 (by decide +kernel)) rfl
theorem tw_7_65 : (Jvm.Cond.methodLink "RainCellarLaw" (136 : Nat) ({ cls := "RainCellarModel", name := "<init>", desc := "()V" } : Jvm.MethodName)) ∈ rc_big := rc_mem (rc_m7 65 (by decide +kernel)) rfl
theorem tw_7_66 : (Jvm.Cond.instanceMethod ({ cls := "RainCellarModel", name := "<init>", desc := "()V" } : Jvm.MethodName)) ∈ rc_big := rc_mem (rc_m7 66 (by decide +kernel)) rfl
theorem tw_7_67 : (Jvm.Cond.code ({ cls := "RainCellarModel", name := "<init>", desc := "()V" } : Jvm.MethodName) prog_11_method_1_code (2 : Nat) (Option.none : Option Jvm.ClassFile.FieldType)) ∈ rc_big := rc_mem (rc_m7 67 (by decide +kernel)) rfl
/-! THE LAW: its loop, its entry -/
def lx_tab : List Nat := [216, 284, 340, 396, 476, 544, 628, 684, 740, 796, 809, 877, 945, 1001, 1057, 1125, 1200, 1256, 1312, 1368, 1424, 1480, 1536, 1604, 1679, 1747, 1760, 1818, 1862, 1875, 1931, 1987, 2000, 2056, 2121, 2187, 2243, 2287, 2300]
theorem lx_all : ∀ t ∈ lx_tab, lx_case t := List.forall_mem_cons.mpr ⟨lc_storm, List.forall_mem_cons.mpr ⟨lc_barrel, List.forall_mem_cons.mpr ⟨lc_takeAway, List.forall_mem_cons.mpr ⟨lc_pour, List.forall_mem_cons.mpr ⟨lc_hail, List.forall_mem_cons.mpr ⟨lc_sommelier, List.forall_mem_cons.mpr ⟨lc_leave, List.forall_mem_cons.mpr ⟨lc_drink, List.forall_mem_cons.mpr ⟨lc_clear, List.forall_mem_cons.mpr ⟨lc_year, List.forall_mem_cons.mpr ⟨lc_roofOf, List.forall_mem_cons.mpr ⟨lc_barrelOf, List.forall_mem_cons.mpr ⟨lc_note, List.forall_mem_cons.mpr ⟨lc_noteAgain, List.forall_mem_cons.mpr ⟨lc_noteIn, List.forall_mem_cons.mpr ⟨lc_notices, List.forall_mem_cons.mpr ⟨lc_noticing, List.forall_mem_cons.mpr ⟨lc_hidden, List.forall_mem_cons.mpr ⟨lc_hiddenAgain, List.forall_mem_cons.mpr ⟨lc_wouldCatch, List.forall_mem_cons.mpr ⟨lc_wouldLose, List.forall_mem_cons.mpr ⟨lc_vintage, List.forall_mem_cons.mpr ⟨lc_stormOf, List.forall_mem_cons.mpr ⟨lc_canPour, List.forall_mem_cons.mpr ⟨lc_ranked, List.forall_mem_cons.mpr ⟨lc_isEven, List.forall_mem_cons.mpr ⟨lc_append, List.forall_mem_cons.mpr ⟨lc_commands, List.forall_mem_cons.mpr ⟨lc_faultPosition, List.forall_mem_cons.mpr ⟨lc_reason, List.forall_mem_cons.mpr ⟨lc_line, List.forall_mem_cons.mpr ⟨lc_panel, List.forall_mem_cons.mpr ⟨lc_character, List.forall_mem_cons.mpr ⟨lc_meanNote, List.forall_mem_cons.mpr ⟨lc_hailShare, List.forall_mem_cons.mpr ⟨lc_account, List.forall_mem_cons.mpr ⟨lc_undo, List.forall_mem_cons.mpr ⟨lc_save, List.forall_mem_cons.mpr ⟨lc_restore, fun _ h => absurd h List.not_mem_nil⟩⟩⟩⟩⟩⟩⟩⟩⟩⟩⟩⟩⟩⟩⟩⟩⟩⟩⟩⟩⟩⟩⟩⟩⟩⟩⟩⟩⟩⟩⟩⟩⟩⟩⟩⟩⟩⟩⟩
theorem lx_offs : ∀ k : Nat, k < 39 → (#[172, 240, 296, 352, 432, 500, 584, 640, 696, 752, 765, 833, 901, 957, 1013, 1081, 1156, 1212, 1268, 1324, 1380, 1436, 1492, 1560, 1635, 1703, 1716, 1774, 1818, 1831, 1887, 1943, 1956, 2012, 2077, 2143, 2199, 2243, 2256] : Array Int)[((k : Int) - 0).toNat]? = some (((lx_tab.getD k 0 : Nat) : Int) - 44) := by decide +kernel
theorem lx_in : ∀ k : Nat, k < 39 → lx_tab.getD k 0 ∈ lx_tab := by decide +kernel
theorem lx_ge {N L : Nat} (hN : 4 * N ≤ L) (hL : L ≤ 2048) (h : ¬ nI L - 4 < nI (4 * N)) : 4 * N + 4 ≤ L := by
  by_cases h4 : L < 4
  · exfalso
    apply h
    have h0 : N = 0 := by omega
    subst h0
    have key : ∀ q, q < 4 → nI q - 4 < nI (4 * 0) := by decide +kernel
    exact key L h4
  · have e : nI L - 4 = nI (L - 4) := by
      have e1 : nI (L - 4) + 4 = nI L := (nI_add (L - 4) 4).trans (congrArg nI (by omega))
      rw [← e1]
      exact Int32.add_sub_cancel _ _
    rw [e] at h
    have h5 : ¬ (L - 4 < 4 * N) := fun q => h ((nI_ltI (a := L - 4) (b := 4 * N) (by omega) (by omega)).mpr q)
    omega
theorem pq_I1 {rf : rc_F} {σ : rc_S} {x N : Nat} (h : pq_I rf σ x N) : pq_I rf σ x (N + 1) := by
  obtain ⟨Bd, Ln, h1, h2⟩ := h
  exact ⟨Bd, Ln, by omega, h2⟩
theorem lx_J1 {Y : rc_Y} {x N : Nat} {dL dD : ClassId} {H : Heap} (h : lx_J Y x dL dD N H) : lx_J Y x dL dD (N + 1) H := by
  obtain ⟨σ, fL, fD, h1, h2, h3, h4⟩ := h
  exact ⟨σ, fL, fD, h1, pq_I1 h2, h3, h4⟩
section LXL
variable {p : Program} {l : Launch} {e : Env} {s : State} {m : MethodId} {below : List Frame} {meth : Method} {c : Code} {Q : State → Prop} {Y : rc_Y} {x b L : Nat} {xs : Nat → Int32} {dL dD : ClassId}
/-- from the loop's head to its end, or to the case -/
theorem lx_head (hC : lx_C l Y p s m meth c b L x xs dL dD) {H : Heap} {locs : List Loc} {ls : Array Slot} {cells slots N : Nat} (hN : 4 * N ≤ L) (hc : cells + 3 ≤ 606338) (hs : slots + 18 ≤ 7201315) (hS : va_S (rc_A (w_sh x) s.heap.size) s.heap H locs) (hJ : lx_J Y x dL dD N H) (hl : lv_has ls 9 (lx_l b x N))
    (ke : W p l e room_1 s m #[Value.ref b] below meth c H locs cells slots Q (F0 m 2350 ls []))
    (kk : 4 * N + 4 ≤ L → ∀ (H1 : Heap) (locs1 : List Loc) (ls1 : Array Slot), lx_J Y x dL dD (N + 1) H1 → va_S (rc_A (w_sh x) s.heap.size) s.heap H1 locs1 → lv_has ls1 9 (lx_l b x N) → W p l e room_1 s m #[Value.ref b] below meth c H1 locs1 (cells + 3) (slots + 18) Q (F0 m 2344 ls1 [])) :
    W p l e room_1 s m #[Value.ref b] below meth c H locs cells slots Q (F0 m 28 ls []) := by
  obtain ⟨hx, hb, hml, hown, hts, hX, hbl, hL, hxe, -⟩ := id hC
  refine lv_iload hx hb dL_law_28 (lv_at hl 5 rfl) ?_
  refine lv_aload_n hx hb dL_law_30 rfl (lv_at hl 0 rfl) ?_
  refine lx_slen hx hb hX hbl hxe hS dL_law_31 ?_
  refine lv_iconst (v := 4) hx hb dL_law_32 (by decide) ?_
  refine lv_isub hx hb dL_law_33 ?_
  refine lv_icmp_gt (tgt := 2350) hx hb dL_law_34 (by decide) (fun _ => ke) (fun c9 => ?_)
  have h4 := lx_ge hN hL c9
  refine lv_aload_n hx hb dL_law_37 rfl (lv_at hl 0 rfl) ?_
  refine lv_iload hx hb dL_law_38 (lv_at hl 5 rfl) ?_
  refine lx_sld hx hb hX hbl hxe hL hS (j := 4 * N) (by omega) rfl dL_law_40 ?_
  refine lv_bipush (v := 63) hx hb dL_law_41 (by decide) ?_
  refine lv_iand hx hb dL_law_43 ?_
  refine lv_topi (fun v _ => ?_)
  by_cases hv : v.toInt < 0 ∨ 38 < v.toInt
  · refine lv_tableOut (tgt := 2344) hx hb dL_law_44 hv (by decide) ?_
    refine W.widen (k := cells + 3) (n := slots + 18) (by omega) (by omega) ?_
    exact kk h4 _ _ _ (lx_J1 hJ) hS hl
  · obtain ⟨k, hk⟩ := Int.eq_ofNat_of_zero_le (show 0 ≤ v.toInt by omega)
    have hk39 : k < 39 := by omega
    refine lv_tableIn (off := ((lx_tab.getD k 0 : Nat) : Int) - 44) (tgt := lx_tab.getD k 0) hx hb dL_law_44 (by omega) (by omega) (by rw [hk]; exact lx_offs k hk39) (by omega) ?_
    exact lx_all _ (lx_in k hk39) p l e s m below meth c H locs cells slots Q ls Y x N b L xs dL dD hC h4 hS hJ hl hc hs (kk h4)
/-- the loop -/
theorem lx_loop (hC : lx_C l Y p s m meth c b L x xs dL dD)
    (ke : ∀ (H1 : Heap) (locs1 : List Loc) (ls1 : Array Slot) (ce sl : Nat), ce ≤ 606338 → sl ≤ 7201315 → va_S (rc_A (w_sh x) s.heap.size) s.heap H1 locs1 → W p l e room_1 s m #[Value.ref b] below meth c H1 locs1 ce sl Q (F0 m 2350 ls1 [])) :
    ∀ (d N : Nat) (H : Heap) (locs : List Loc) (ls : Array Slot) (cells slots : Nat), L < 4 * N + 4 * d + 4 → 4 * N ≤ L → cells + 3 * (d + 1) ≤ 606338 → slots + 18 * (d + 1) ≤ 7201315 → va_S (rc_A (w_sh x) s.heap.size) s.heap H locs → lx_J Y x dL dD N H → lv_has ls 9 (lx_l b x N) → W p l e room_1 s m #[Value.ref b] below meth c H locs cells slots Q (F0 m 28 ls []) := by
  intro d
  induction d with
  | zero =>
    intro N H locs ls cells slots h1 h2 h3 h4 hS hJ hl
    exact lx_head hC h2 (by omega) (by omega) hS hJ hl (ke _ _ _ _ _ (by omega) (by omega) hS) (fun h => absurd h (by omega))
  | succ d ih =>
    intro N H locs ls cells slots h1 h2 h3 h4 hS hJ hl
    refine lx_head hC h2 (by omega) (by omega) hS hJ hl (ke _ _ _ _ _ (by omega) (by omega) hS) (fun h5 H locs ls hJ hS hl => ?_)
    have hx := hC.1
    have hb := hC.2.1
    refine lv_iinc (v := nI (4 * (N + 1))) (lv' := [(5, .int (nI (4 * (N + 1)))), (0, .ref b), (1, .ref x), (2, .ref (x + 308)), (3, .ref (x + 316)), (4, .ref (x + 317))]) hx hb dL_law_2344 hl (k := 5) rfl ((nI_add (4 * N) 4).trans (congrArg nI (by omega))) (by decide) rfl (fun ls hl => ?_)
    refine lv_goto (tgt := 28) hx hb dL_law_2347 (by decide) ?_
    exact ih (N + 1) H locs ls (cells + 3) (slots + 18) (by omega) (by omega) (by omega) (by omega) hS hJ (lv_sub hl [1, 2, 3, 4, 5, 0] rfl)
end LXL
theorem rl_c0 {L M : rl_L} : rl_c L 0 M = M := by
  funext j
  unfold rl_c
  rw [if_neg (Nat.not_lt_zero j), Nat.sub_zero]
  refine Prod.ext rfl (Prod.ext ?_ rfl)
  funext k
  show rl_q 0 (M j).2.1 k = (M j).2.1 k
  unfold rl_q
  by_cases h : (M j).2.1 k = 0
  · rw [if_pos h, h]
  · rw [if_neg h, Nat.zero_add]
set_option maxHeartbeats 8000000 in
set_option maxRecDepth 100000 in
/-- from the entry to the loop -/
theorem lx_entry {p : Program} {l : Launch} {e : Env} {s : State} {m : MethodId} {below : List Frame} {meth : Method} {c : Code} {Q : State → Prop} {D : va_G} {cy : Nat → ClassId} {tx : Nat → Nat} {x b L : Nat} {xs : Nat → Int32} (hx : p.tables.exec = Jvm.exec) (hb : c.code = code) (hml : c.maxLocals = 9) (hown : s.vm.findClass RL = some m.cls) (hts : ∀ w ∈ rc_big, w.before #[Value.ref b] s = true) (hX : va_X b L xs s s.heap) (hbl : b < s.heap.size) (hL : L ≤ 2048) (hxe : x = s.heap.size)
    (hK : va_K D vwCl (rc_tys cy) s) (hE : rc_E (x, D, cy, tx) s s.heap) (hNc : rc_N s) (hAO : rl_AO s) (hl9 : l.stackTraces = false)
    (hal : (Cond.arrayClass .long).before #[Value.ref b] s = true) (had : (Cond.arrayClass .double).before #[Value.ref b] s = true)
    (ke : ∀ (H1 : Heap) (locs1 : List Loc) (ls1 : Array Slot) (ce sl : Nat), ce ≤ 606338 → sl ≤ 7201315 → (∀ q ∈ locs1, s.heap.size ≤ q.base) → W p l e room_1 s m #[Value.ref b] below meth c H1 locs1 ce sl Q (F0 m 2350 ls1 [])) :
    W p l e room_1 s m #[Value.ref b] below meth c s.heap [] 0 0 Q (entryFrame m ([Value.ref b] : List Value).toArray 9) := by
  have hl := lv_entry ([.ref b]) (n := 9) (Nat.le_of_ble_eq_true rfl)
  rw [lg_entry_eq]
  generalize (lg_sl ([.ref b]) ++ List.replicate (9 - (lg_sl ([.ref b])).length) Slot.unset).toArray = ls at hl ⊢
  have hl : lv_has ls 9 [(0, .ref b)] := hl
  have hS : va_S (fun q => x ≤ q) s.heap s.heap [] := va_S.rf
  have hz : s.heap.size = x + 0 := hxe.symm
  have hV : rc_V (x, D, cy, tx) (rl_o (fun _ => (0, (fun _ => 0), (fun _ => 0))) x (fun _ => (0, (fun _ => 0), (fun _ => 0)))) s.heap := fun a ha => absurd (by
    unfold rl_o
    by_cases h : a < x
    · rw [if_pos h]
    · rw [if_neg h]) ha
  refine rl_newo (n := 0) (C := RX8) (T := TX8) (N := 9) hx hb hts in_9 tyX8 tyX8_ok hown (hts _ tw_1_35) (hts _ tw_1_36) (hts _ tw_1_1) hK hV hz hS (ci := 12) rfl 9 rfl (fun j hj => by
      rcases (show j = 0 ∨ j = 1 ∨ j = 2 ∨ j = 3 ∨ j = 4 ∨ j = 5 ∨ j = 6 ∨ j = 7 ∨ j = 8 by omega) with rfl | rfl | rfl | rfl | rfl | rfl | rfl | rfl | rfl <;> rfl) (Nat.le_of_ble_eq_true rfl) (Nat.le_of_ble_eq_true rfl) dL_law_0 (fun H hV hz hS => ?_)
  refine lv_dup hx hb dL_law_3 rfl ?_
  refine rl_call (n := 0) (N := 308) (M := g_X8_init) (va_runI (As := []) (rest := [.ref (x + 0)]) ⟨hx, hb, hml, hown, hts⟩ (kc_X8_init l (rl_o (fun _ => (0, (fun _ => 0), (fun _ => 0))) x _) (x + 0) (Nat.le_add_right x 0)) (cwI 0 hts (rc_gI tw_1_39) rfl rfl rfl (hts _ tw_1_1) (hts _ tw_1_37) (hts _ tw_1_38) rfl (by decide +kernel) ⟨Nat.le_of_ble_eq_true rfl, Nat.le_of_ble_eq_true rfl⟩) (rl_pre (Nat.le_refl x) hK hE hAO hV hz hS [.ref (x + 0)]) rfl rfl hl.1 rfl (lv_room (Nat.le_of_ble_eq_true rfl)) dL_law_4 ⟨Nat.le_of_ble_eq_true rfl, Nat.le_of_ble_eq_true rfl⟩) (Nat.le_add_right x 0) hS (fun H locs hV hz hS => ?_)
  refine lv_astore_n (lv' := [(1, .ref (x + 0)), (0, .ref b)]) hx hb dL_law_7 rfl hl (by decide) rfl (fun ls hl => ?_)
  rw [rl_c0] at hV
  have hz : H.size = x + 308 := hz.trans (by omega)
  refine rl_newo (n := 308) (C := RX9) (T := TX9) (N := 22) hx hb hts in_10 tyX9 tyX9_ok hown (hts _ tw_7_63) (hts _ tw_7_64) (hts _ tw_1_14) hK hV hz hS (ci := 13) rfl 10 rfl (fun j hj => by
      rcases (show j = 0 ∨ j = 1 ∨ j = 2 ∨ j = 3 ∨ j = 4 ∨ j = 5 ∨ j = 6 ∨ j = 7 ∨ j = 8 ∨ j = 9 ∨ j = 10 ∨ j = 11 ∨ j = 12 ∨ j = 13 ∨ j = 14 ∨ j = 15 ∨ j = 16 ∨ j = 17 ∨ j = 18 ∨ j = 19 ∨ j = 20 ∨ j = 21 by omega) with rfl | rfl | rfl | rfl | rfl | rfl | rfl | rfl | rfl | rfl | rfl | rfl | rfl | rfl | rfl | rfl | rfl | rfl | rfl | rfl | rfl | rfl <;> rfl) (Nat.le_of_ble_eq_true rfl) (Nat.le_of_ble_eq_true rfl) dL_law_8 (fun H hV hz hS => ?_)
  refine lv_dup hx hb dL_law_11 rfl ?_
  refine rl_call (n := 308) (N := 8) (M := g_X9_init) (va_runI (As := []) (rest := [.ref (x + 308)]) ⟨hx, hb, hml, hown, hts⟩ (kc_X9_init l (rl_o (fun _ => (0, (fun _ => 0), (fun _ => 0))) x _) (x + 308) (Nat.le_add_right x 308)) (cwI 0 hts (rc_gI tw_7_67) rfl rfl rfl (hts _ tw_1_14) (hts _ tw_7_65) (hts _ tw_7_66) rfl (by decide +kernel) ⟨Nat.le_of_ble_eq_true rfl, Nat.le_of_ble_eq_true rfl⟩) (rl_pre (Nat.le_refl x) hK hE hAO hV hz hS [.ref (x + 308)]) rfl rfl hl.1 rfl (lv_room (Nat.le_of_ble_eq_true rfl)) dL_law_12 ⟨Nat.le_of_ble_eq_true rfl, Nat.le_of_ble_eq_true rfl⟩) (Nat.le_add_right x 308) hS (fun H locs hV hz hS => ?_)
  refine lv_astore_n (lv' := [(2, .ref (x + 308)), (1, .ref (x + 0)), (0, .ref b)]) hx hb dL_law_15 rfl hl (by decide) rfl (fun ls hl => ?_)
  have hW := w_W (ω := fun _ => (0, (fun _ => 0), (fun _ => 0))) hV
  have hz : H.size = x + 316 := hz.trans (by omega)
  clear hV
  refine lv_iconst (v := 1) hx hb dL_law_16 (by decide) ?_
  refine va_newaK (atype := .long) hx hb hal rfl dL_law_17 rfl (n := 1) (N := 1) (by decide) (by decide) (Nat.le_of_ble_eq_true rfl) (Nat.le_of_ble_eq_true rfl) (Nat.le_of_ble_eq_true rfl) (h := x + 316) hz (fun H1 dL e1 z1 o1 hAr hNm => ?_)
  have hK2 : va_K D vwCl [(dL, .long)] s := ⟨hK.1, fun k q hk => by
    have h0 : k < 1 := (List.getElem?_eq_some_iff.mp hk).1
    rw [show k = 0 by omega] at hk
    cases hk
    exact ⟨hAr, hNm⟩⟩
  have hOL : va_P D vwCl (rc_lo dL (x + 316) (fun _ => 0)) H1 := fun k q hk => by
    have h0 : k < 1 := (List.getElem?_eq_some_iff.mp hk).1
    rw [show k = 0 by omega] at hk
    cases hk
    show H1[x + 316]? = some (vp_cell _ _)
    rw [vp_cell_l]
    exact e1
  have hW := hW.kept (H1 := H1) (fun a ha => o1 a (by rw [← hz]; exact hW.lt ha))
  have hS : va_S (fun q => x ≤ q) s.heap H1 locs := ⟨by rw [z1, hxe]; omega, fun q h1 h2 => (o1 q (by omega)).trans (hS.2.1 q h1 h2), hS.2.2⟩
  clear e1 o1
  refine W.eq (g2 := F0 m 19 ls [.ref (x + 316)]) rfl ?_
  refine lv_astore_n (lv' := [(3, .ref (x + 316)), (2, .ref (x + 308)), (1, .ref (x + 0)), (0, .ref b)]) hx hb dL_law_19 rfl hl (by decide) rfl (fun ls hl => ?_)
  refine lv_iconst (v := 1) hx hb dL_law_20 (by decide) ?_
  refine va_newaK (atype := .double) hx hb had rfl dL_law_21 rfl (n := 1) (N := 1) (by decide) (by decide) (Nat.le_of_ble_eq_true rfl) (Nat.le_of_ble_eq_true rfl) (Nat.le_of_ble_eq_true rfl) (h := x + 317) z1 (fun H2 dD e2 z2 o2 hAr hNm => ?_)
  have hK3 : va_K D vwCl [(dD, .double)] s := ⟨hK.1, fun k q hk => by
    have h0 : k < 1 := (List.getElem?_eq_some_iff.mp hk).1
    rw [show k = 0 by omega] at hk
    cases hk
    exact ⟨hAr, hNm⟩⟩
  have hOD : va_P D vwCl (rc_do dD (x + 317) (fun _ => 0)) H2 := fun k q hk => by
    have h0 : k < 1 := (List.getElem?_eq_some_iff.mp hk).1
    rw [show k = 0 by omega] at hk
    cases hk
    show H2[x + 317]? = some (vp_cell _ _)
    rw [vp_cell_d]
    exact e2
  have hOL := hOL.kept (H1 := H2) (fun k q hk => o2 q.1 (by
    have h0 : k < 1 := (List.getElem?_eq_some_iff.mp hk).1
    rw [show k = 0 by omega] at hk
    cases hk
    show x + 316 < x + 317
    omega))
  have hW := hW.kept (H1 := H2) (fun a ha => o2 a (by have := hW.lt ha; omega))
  have hS : va_S (fun q => x ≤ q) s.heap H2 locs := ⟨by rw [z2, hxe]; omega, fun q h1 h2 => (o2 q (by omega)).trans (hS.2.1 q h1 h2), hS.2.2⟩
  clear e2 o2
  refine W.eq (g2 := F0 m 23 ls [.ref (x + 317)]) rfl ?_
  refine lv_astore (lv' := [(4, .ref (x + 317)), (3, .ref (x + 316)), (2, .ref (x + 308)), (1, .ref (x + 0)), (0, .ref b)]) hx hb dL_law_23 hl (by decide) rfl (fun ls hl => ?_)
  refine lv_iconst (v := 0) hx hb dL_law_25 (by decide) ?_
  refine lv_istore (lv' := [(5, .int 0), (4, .ref (x + 317)), (3, .ref (x + 316)), (2, .ref (x + 308)), (1, .ref (x + 0)), (0, .ref b)]) hx hb dL_law_26 hl (by decide) rfl (fun ls hl => ?_)
  have hC : lx_C l (x, D, cy, tx) p s m meth c b L x xs dL dD := ⟨hx, hb, hml, hown, hts, hX, hbl, hL, hxe, rfl, hK, hE, hK2, hK3, hNc, hl9⟩
  refine lx_loop (dL := dL) (dD := dD) hC (fun H1 locs1 ls1 ce sl h1 h2 h3 => ke H1 locs1 ls1 ce sl h1 h2 (fun q hq => ?_)) 512 0 H2 locs ls _ _ (by omega) (by omega) (by omega) (by omega) ⟨hS.1, fun q h1 h2 => hS.2.1 q h1 (fun h3 => h2 (Or.inr (by rw [← hxe]; exact h3))), fun q h => Or.inr (by rw [← hxe]; exact hS.2.2 q h)⟩ ⟨w_σ x, fun _ => 0, fun _ => 0, hW, w_I, hOL, hOD⟩ (lv_sub hl [5, 4, 3, 2, 1, 0] rfl)
  rcases h3.2.2 q hq with h | h
  · rw [← hxe]
    exact ((w_T (Y := (x, D, cy, tx)) (Nat.le_refl x)) _).1 h
  · exact h
