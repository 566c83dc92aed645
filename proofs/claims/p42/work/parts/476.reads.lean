theorem tw_5_115 : (Jvm.Cond.methodLink "RainCellarLaw" (143 : Nat) ({ cls := "java/lang/String", name := "length", desc := "()I" } : Jvm.MethodName)) ∈ rc_big := rc_mem (rc_m5 115 (by decide +kernel)) rfl
theorem tw_5_116 : (Jvm.Cond.methodLink "RainCellarLaw" (148 : Nat) ({ cls := "java/lang/String", name := "charAt", desc := "(I)C" } : Jvm.MethodName)) ∈ rc_big := rc_mem (rc_m5 116 (by decide +kernel)) rfl
theorem tw_5_140 : (Jvm.Cond.methodLink "RainCellarLaw" (151 : Nat) ({ cls := "RainCellarLaw", name := "append", desc := "(LRainCellar;C)I" } : Jvm.MethodName)) ∈ rc_big := rc_mem (rc_m5 140 (by decide +kernel)) rfl
theorem tw_5_141 : (Jvm.Cond.static ({ cls := "RainCellarLaw", name := "append", desc := "(LRainCellar;C)I" } : Jvm.MethodName)) ∈ rc_big := rc_mem (rc_m5 141 (by decide +kernel)) rfl
theorem tw_5_142 : (Jvm.Cond.codeWith ({ cls := "RainCellarLaw", name := "append", desc := "(LRainCellar;C)I" } : Jvm.MethodName) method_28_code (3 : Nat) (Option.some Jvm.ClassFile.FieldType.int) [((0 : Nat), (5 : Nat), (6 : Nat), (105 : Nat))]) ∈ rc_big := rc_mem (rc_m5 142 (by decide +kernel)) rfl
theorem tw_5_167 : (Jvm.Cond.methodLink "RainCellarLaw" (154 : Nat) ({ cls := "RainCellarLaw", name := "commands", desc := "(LRainCellar;)I" } : Jvm.MethodName)) ∈ rc_big := rc_mem (rc_m5 167 (by decide +kernel)) rfl
theorem tw_5_168 : (Jvm.Cond.static ({ cls := "RainCellarLaw", name := "commands", desc := "(LRainCellar;)I" } : Jvm.MethodName)) ∈ rc_big := rc_mem (rc_m5 168 (by decide +kernel)) rfl
theorem tw_5_169 : (Jvm.Cond.codeWith ({ cls := "RainCellarLaw", name := "commands", desc := "(LRainCellar;)I" } : Jvm.MethodName) method_29_code (2 : Nat) (Option.some Jvm.ClassFile.FieldType.int) [((0 : Nat), (4 : Nat), (5 : Nat), (54 : Nat)), ((0 : Nat), (4 : Nat), (9 : Nat), (20 : Nat))]) ∈ rc_big := rc_mem (rc_m5 169 (by decide +kernel)) rfl
def f_L_reads (rf : rc_F) (z : rc_Z) (a0 : Nat) : List Nat → rc_S → Option (Int32 × rc_S)
  | [], σ => f_L_commands rf z a0 σ
  | v :: L, σ => rc_bd (f_L_append rf z a0 (Int32.ofNat v) σ) fun _ σ1 => f_L_reads rf z a0 L σ1
def rc_AR (shS sh : Nat → Nat) (sz : Nat) : Nat → Prop := fun q => shS q ≠ 0 ∨ rc_A sh sz q
def rc_PR (Y : rc_Y) (sh : Nat → Nat) (rf : rc_F) (σ : rc_S) (shS : Nat → Nat) (rfS : rc_F) (σS : rc_S) (sz : Nat) (z : rc_Z) (av : List Value) : Array Value → State → Prop := va_Pc av (fun U => U.heap.size = sz ∧ rc_B Y sh rf σ U ∧ rc_N U ∧ rc_Xz z Y U U.heap ∧ rc_W Y shS rfS σS U.heap)
theorem rc_blindR {Y : rc_Y} {sh : Nat → Nat} {rf : rc_F} {σ : rc_S} {shS : Nat → Nat} {rfS : rc_F} {σS : rc_S} {sz : Nat} {z : rc_Z} {av : List Value} : FrameBlind (rc_PR Y sh rf σ shS rfS σS sz z av) := by
  intro a U g mk q
  obtain ⟨q0, q1, qB, qN, qX, qS⟩ := q
  exact ⟨q0, q1, rc_Bc qB, rc_N.moved (u := U) (U := U.calling g mk a) (Vm.Alike.refl U.vm) qN, rc_Xz.go (s := U) (U := U.calling g mk a) (H := U.heap) qX (Vm.Alike.refl U.vm) rfl, qS⟩
section RCR12
variable {p : Program} {l : Launch} {e : Env} {R : Room} {s : State} {m : MethodId} {args : Array Value} {below : List Frame} {meth : Method} {c : Code} {H H0 : Heap} {locs : List Loc} {cells slots : Nat} {Q : State → Prop}
variable {cc : ByteArray} {pc : Nat} {ls : Array Slot} {rest : List Value} {Y : rc_Y} {sh : Nat → Nat} {rf : rc_F} {σ σ' σ1 : rc_S} {z : rc_Z} {A : Nat → Prop}
theorem rc_XkB (hE : rc_E Y s s.heap) (hX : rc_Xz z Y s s.heap) (hB : va_S (fun q => Y.1 ≤ q) s.heap H locs) : H[z.1]? = s.heap[z.1]? := hB.2.1 _ (Nat.lt_of_lt_of_le hX.2 hE.1) (Nat.not_le.mpr hX.2)
theorem rc_preSLB (hW : rc_W Y sh rf σ H) (hK : va_K Y.2.1 vwCl (rc_tys Y.2.2.1) s) (hE : rc_E Y s s.heap) (hN : rc_N s) (hX : rc_Xz z Y s s.heap) (hB : va_S (fun q => Y.1 ≤ q) s.heap H locs) (As : List Value) : PreS s H (rc_PL Y sh rf σ H.size z As) As :=
  ⟨rc_blindL, fun U hU hwm => by
    obtain ⟨q0, q1, qB⟩ := rc_preB hW hK hE hB As U hU hwm
    exact ⟨q0, q1, qB, hN.moved hwm.alike, hX.go hwm.alike (by rw [hU]; exact rc_XkB hE hX hB)⟩⟩
theorem rc_preSR {shS : Nat → Nat} {rfS : rc_F} {σS : rc_S} (hW : rc_W Y sh rf σ H) (hWS : rc_W Y shS rfS σS H) (hK : va_K Y.2.1 vwCl (rc_tys Y.2.2.1) s) (hE : rc_E Y s s.heap) (hN : rc_N s) (hX : rc_Xz z Y s s.heap) (hB : va_S (fun q => Y.1 ≤ q) s.heap H locs) (As : List Value) : PreS s H (rc_PR Y sh rf σ shS rfS σS H.size z As) As :=
  ⟨rc_blindR, fun U hU hwm => by
    obtain ⟨q0, q1, qB⟩ := rc_preB hW hK hE hB As U hU hwm
    exact ⟨q0, q1, qB, hN.moved hwm.alike, hX.go hwm.alike (by rw [hU]; exact rc_XkB hE hX hB), by rw [hU]; exact hWS⟩⟩
theorem rc_iretA {v : Int32} {mc ms : Nat} (hx : p.tables.exec = Jvm.exec) (hb : c.code = cc) (hr : meth.sig.returnType = some .int) (hlocks : meth.locks = false) (hW : rc_W Y sh rf σ H) (hS : va_S A s.heap H locs) (hc : cells ≤ mc) (hs : slots ≤ ms) (hdg : decode cc pc = .ok (.ireturn, 1)) :
    W p l e R s m args below meth c H locs cells slots (MQ below (va_Qi (fun (r' : Int32) (_ : Unit) => r' = v) (fun _ t => rc_W Y sh rf σ t.heap) A) args s mc ms A) (F0 m pc ls [.int v]) := by
  refine W.widen hc hs ?_
  exact W.iret (v := v) hx hb hr (fun t ht _ => ⟨⟨v, (), rfl, rfl, show rc_W Y sh rf σ t.heap by rw [ht]; exact hW⟩, hS.F ht⟩) hS.2.2 hdg hlocks
end RCR12

set_option maxHeartbeats 4000000 in
set_option maxRecDepth 100000 in
theorem k_L_reads_12 (l : Launch) (hl9 : l.stackTraces = false) {Y : rc_Y} {sh : Nat → Nat} {rf : rc_F} (hT : rc_T Y sh rf) (z : rc_Z) (a0 : Nat) (h0 : sh a0 = 9) {shS : Nat → Nat} {rfS : rc_F} {σS : rc_S} (hTS : rc_T Y shS rfS) (t1 : Nat) (h1 : shS t1 = 12) (hd : ∀ q, sh q ≠ 0 → shS q = 0) {L : List Nat} (hL : L.length = 2) (hp : pTx σS t1 (rfS t1 0) L) (sz : Nat) (σ σ' : rc_S) (r : Int32) (hm : f_L_reads rf z a0 L σ = some (r, σ')) : Met l yL_reads (Cond.code yL_reads cL_reads 4 (some .int) :: rc_big) ({ frames := 9, cells := 3, slots := 18, locals := 202 } : Room) (rc_PR Y sh rf σ shS rfS σS sz z [.ref a0, .ref t1]) (va_Qi (fun (r' : Int32) (_ : Unit) => r' = r) (fun _ t => rc_W Y sh rf σ' t.heap) (rc_AR shS sh sz)) 3 18 (rc_AR shS sh sz) := by
  refine Met.ofW (cc := cL_reads) (maxL := 4) (ret := (some .int)) (by decide +kernel) rfl ?_
  intro p e s m args below meth c s₁ B hml hv
  obtain ⟨rfl, hsz, ⟨hW, hK, hE⟩, hN, hXz, hWS⟩ := hv
  have hx := B.exec
  have hb := B.bytes
  have hr := B.returns
  have hts : ∀ w ∈ rc_big, w.before _ s = true := fun w h => atoms_spec (ws := Cond.code yL_reads cL_reads 4 (some .int) :: rc_big) B.pre w (List.mem_cons_of_mem _ h)
  have hown : s.vm.findClass RL = some m.cls := findClass_of_methodNamed B.named
  have hlocks := B.notSynchronized
  clear B
  subst hsz
  have hS : va_S (rc_AR shS sh s.heap.size) s.heap s.heap [] := va_S.rf
  have hAB : ∀ q, rc_AR shS sh s.heap.size q → Y.1 ≤ q := fun q h => by
    rcases h with h | h | h
    · exact rc_t_b hTS h
    · exact rc_t_b hT h
    · exact Nat.le_trans hE.1 h
  have hd2 : ∀ q, shS q ≠ 0 → sh q = 0 := fun q h => Classical.byContradiction (fun h2 => h (hd q h2))
  have hl := lv_entry ([.ref a0, .ref t1]) (n := 4) (Nat.le_of_ble_eq_true rfl)
  rw [lg_entry_eq]
  generalize (lg_sl ([.ref a0, .ref t1]) ++ List.replicate (4 - (lg_sl ([.ref a0, .ref t1])).length) Slot.unset).toArray = ls at hl ⊢
  have hl : lv_has ls 4 [(0, .ref a0), (1, .ref t1)] := hl
  have lp : ∀ (d k : Nat), k + d = 2 → ∀ (H : Heap) (locs : List Loc) (ls : Array Slot) (σ : rc_S), f_L_reads rf z a0 (L.drop k) σ = some (r, σ') → rc_W Y sh rf σ H → rc_W Y shS rfS σS H → va_S (rc_AR shS sh s.heap.size) s.heap H locs → lv_has ls 4 [(2, .int (Int32.ofNat k)), (0, .ref a0), (1, .ref t1)] → W p l e (headSpec (Cond.code yL_reads cL_reads 4 (some .int) :: rc_big) ({ frames := 9, cells := 3, slots := 18, locals := 202 } : Room)).room s m (([.ref a0, .ref t1] : List Value).toArray) below meth c H locs (k * 1) (k * 6) (MQ below (va_Qi (fun (r' : Int32) (_ : Unit) => r' = r) (fun _ t => rc_W Y sh rf σ' t.heap) (rc_AR shS sh s.heap.size)) (([.ref a0, .ref t1] : List Value).toArray) s 3 18 (rc_AR shS sh s.heap.size)) (F0 m 2 ls []) := by
    intro d
    induction d with
    | zero =>
      intro k hk
      intro H locs ls σ hm hW hWS hS hl
      have hB := rc_mono hS hAB
      have hAS : ∀ q, rc_A shS H.size q → rc_AR shS sh s.heap.size q := fun q h => h.elim Or.inl (fun h => Or.inr (Or.inr (Nat.le_trans hS.1 h)))
      refine lv_iload_n hx hb dL_reads_2 rfl (lv_at hl 0 rfl) ?_
      refine lv_aload_n hx hb dL_reads_3 rfl (lv_at hl 2 rfl) ?_
      refine rc_gi hS hAS (va_runV (As := []) (rest := [.int (Int32.ofNat k)]) ⟨hx, hb, hml, hown, hts⟩ (k_J0_length_8abf5_12 l hTS t1 h1 H.size _ _ _ (pb_len_12 hp)) (cwV 0 hts (rc_gV tw_5_115 tw_4_212 tw_4_213 tw_1_12 tw_4_214) rfl rfl rfl (by decide +kernel) ⟨Nat.le_of_ble_eq_true rfl, Nat.le_of_ble_eq_true rfl⟩) (rc_preVB hWS hK hE hB h1 (by decide) rfl (q := (RJ0, TJ0, 4)) rfl []) rfl rfl hl.1 rfl (lv_room (Nat.le_of_ble_eq_true rfl)) dL_reads_4 ⟨by show k * 1 + 0 ≤ 3; omega, by show k * 6 + 0 ≤ 18; omega⟩) (fun H1 locs hWS1 _ hq1 hS => ?_)
      have hW := hW.keptA (sh := shS) hd (Nat.le_refl _) hq1
      have hWS := hWS1
      have hB := rc_mono hS hAB
      have hk2 : k = 2 := by omega
      refine lv_icmp_ge (tgt := 26) hx hb dL_reads_7 (by decide) (fun _ => ?_) (fun c9 => absurd (show (2 : Int32) ≤ Int32.ofNat k by rw [hk2]; decide) c9)
      rw [List.drop_eq_nil_of_le (by omega)] at hm
      have hc : f_L_commands rf z a0 σ = some (r, σ') := hm
      have hAM : ∀ q, rc_A sh H1.size q → rc_AR shS sh s.heap.size q := fun q h => Or.inr (h.elim Or.inl (fun h => Or.inr (Nat.le_trans hS.1 h)))
      refine lv_aload_n hx hb dL_reads_26 rfl (lv_at hl 1 rfl) ?_
      refine rc_gi hS hAM (vx_runSW (As := [.ref a0]) (rest := []) ⟨hx, hb, hml, hown, hts⟩ (k_L_commands l hl9 hT z a0 h0 H1.size _ _ _ hc) (vx_cwSW 1 hts (rc_gS tw_5_167 tw_5_168 tw_1_0 tw_5_169) rfl rfl rfl (by decide +kernel) ⟨Nat.le_of_ble_eq_true rfl, Nat.le_of_ble_eq_true rfl⟩) (rc_preSLB hW hK hE hN hXz hB [.ref a0]) rfl rfl hl.1 rfl (lv_room (Nat.le_of_ble_eq_true rfl)) dL_reads_27 ⟨by show k * 1 + 1 ≤ 3; omega, by show k * 6 + 6 ≤ 18; omega⟩) (fun H2 locs hW1 _ hq1 hS => ?_)
      exact rc_iretA hx hb hr hlocks hW1 hS (by show k * 1 + 1 ≤ 3; omega) (by show k * 6 + 6 ≤ 18; omega) dL_reads_30
    | succ d ih =>
      intro k hk
      intro H locs ls σ hm hW hWS hS hl
      have hB := rc_mono hS hAB
      have hAS : ∀ q, rc_A shS H.size q → rc_AR shS sh s.heap.size q := fun q h => h.elim Or.inl (fun h => Or.inr (Or.inr (Nat.le_trans hS.1 h)))
      refine lv_iload_n hx hb dL_reads_2 rfl (lv_at hl 0 rfl) ?_
      refine lv_aload_n hx hb dL_reads_3 rfl (lv_at hl 2 rfl) ?_
      refine rc_gi hS hAS (va_runV (As := []) (rest := [.int (Int32.ofNat k)]) ⟨hx, hb, hml, hown, hts⟩ (k_J0_length_8abf5_12 l hTS t1 h1 H.size _ _ _ (pb_len_12 hp)) (cwV 0 hts (rc_gV tw_5_115 tw_4_212 tw_4_213 tw_1_12 tw_4_214) rfl rfl rfl (by decide +kernel) ⟨Nat.le_of_ble_eq_true rfl, Nat.le_of_ble_eq_true rfl⟩) (rc_preVB hWS hK hE hB h1 (by decide) rfl (q := (RJ0, TJ0, 4)) rfl []) rfl rfl hl.1 rfl (lv_room (Nat.le_of_ble_eq_true rfl)) dL_reads_4 ⟨by show k * 1 + 0 ≤ 3; omega, by show k * 6 + 0 ≤ 18; omega⟩) (fun H1 locs hWS1 _ hq1 hS => ?_)
      have hW := hW.keptA (sh := shS) hd (Nat.le_refl _) hq1
      have hWS := hWS1
      have hB := rc_mono hS hAB
      have hkn : k < L.length := by omega
      have hv : L[k]? = some L[k] := List.getElem?_eq_getElem hkn
      refine lv_icmp_ge (tgt := 26) hx hb dL_reads_7 (by decide) (fun c9 => absurd ((pq_le (n := 2) (by decide) (by omega)).mp c9) (by omega)) (fun _ => ?_)
      rw [List.drop_eq_getElem_cons hkn] at hm
      rw [f_L_reads] at hm
      obtain ⟨w, σ1, hc, hm0⟩ := rc_bd_inv hm
      refine lv_aload_n hx hb dL_reads_10 rfl (lv_at hl 1 rfl) ?_
      refine lv_aload_n hx hb dL_reads_11 rfl (lv_at hl 2 rfl) ?_
      refine lv_iload_n hx hb dL_reads_12 rfl (lv_at hl 0 rfl) ?_
      have hAS : ∀ q, rc_A shS H1.size q → rc_AR shS sh s.heap.size q := fun q h => h.elim Or.inl (fun h => Or.inr (Or.inr (Nat.le_trans hS.1 h)))
      refine rc_gi hS hAS (va_runV (As := [.int (Int32.ofNat k)]) (rest := [.ref a0]) ⟨hx, hb, hml, hown, hts⟩ (k_J0_charAt_5068e_12 l hTS t1 (Int32.ofNat k) h1 H1.size _ _ _ (pb_chr_12 rfl hp hL hv)) (cwV 1 hts (rc_gV tw_5_116 tw_5_117 tw_5_118 tw_1_12 tw_5_119) rfl rfl rfl (by decide +kernel) ⟨Nat.le_of_ble_eq_true rfl, Nat.le_of_ble_eq_true rfl⟩) (rc_preVB hWS hK hE hB h1 (by decide) rfl (q := (RJ0, TJ0, 4)) rfl [.int (Int32.ofNat k)]) rfl rfl hl.1 rfl (lv_room (Nat.le_of_ble_eq_true rfl)) dL_reads_13 ⟨by show k * 1 + 0 ≤ 3; omega, by show k * 6 + 0 ≤ 18; omega⟩) (fun H3 locs hWS1 _ hq1 hS => ?_)
      have hW := hW.keptA (sh := shS) hd (Nat.le_refl _) hq1
      have hWS := hWS1
      have hB := rc_mono hS hAB
      have hAM : ∀ q, rc_A sh H3.size q → rc_AR shS sh s.heap.size q := fun q h => Or.inr (h.elim Or.inl (fun h => Or.inr (Nat.le_trans hS.1 h)))
      refine rc_gi hS hAM (vx_runSW (As := [.ref a0, .int (Int32.ofNat L[k])]) (rest := []) ⟨hx, hb, hml, hown, hts⟩ (k_L_append l hl9 hT z a0 (Int32.ofNat L[k]) h0 H3.size _ _ _ hc) (vx_cwSW 2 hts (rc_gS tw_5_140 tw_5_141 tw_1_0 tw_5_142) rfl rfl rfl (by decide +kernel) ⟨Nat.le_of_ble_eq_true rfl, Nat.le_of_ble_eq_true rfl⟩) (rc_preSLB hW hK hE hN hXz hB [.ref a0, .int (Int32.ofNat L[k])]) rfl rfl hl.1 rfl (lv_room (Nat.le_of_ble_eq_true rfl)) dL_reads_16 ⟨by show k * 1 + 1 ≤ 3; omega, by show k * 6 + 6 ≤ 18; omega⟩) (fun H2 locs hW1 _ hq1 hS => ?_)
      have hWS := hWS.keptA (sh := sh) hd2 (Nat.le_refl _) hq1
      have hW := hW1
      have hB := rc_mono hS hAB
      refine lv_istore_n (lv' := [(3, .int w), (2, .int (Int32.ofNat k)), (0, .ref a0), (1, .ref t1)]) hx hb dL_reads_19 rfl hl (by decide) rfl (fun ls hl => ?_)
      refine lv_iinc (v := Int32.ofNat (k + 1)) (lv' := [(2, .int (Int32.ofNat (k + 1))), (3, .int w), (0, .ref a0), (1, .ref t1)]) hx hb dL_reads_20 hl (k := 1) rfl (by rw [← pq_s]; rfl) (by decide) rfl (fun ls hl => ?_)
      refine lv_goto (tgt := 2) hx hb dL_reads_23 (by decide) ?_
      refine W.widen (k := (k + 1) * 1) (n := (k + 1) * 6) (by omega) (by omega) ?_
      exact ih (k + 1) (by omega) H2 _ _ _ hm0 hW hWS hS (lv_sub hl [0, 2, 3] rfl)
  refine lv_iconst (v := 0) hx hb dL_reads_0 (by decide) ?_
  refine lv_istore_n (lv' := [(2, .int 0), (0, .ref a0), (1, .ref t1)]) hx hb dL_reads_1 rfl hl (by decide) rfl (fun ls hl => ?_)
  exact lp 2 0 (by omega) s.heap [] ls σ (by rw [List.drop_zero]; exact hm) hW hWS hS hl
set_option maxHeartbeats 4000000 in
set_option maxRecDepth 100000 in
theorem k_L_reads_13 (l : Launch) (hl9 : l.stackTraces = false) {Y : rc_Y} {sh : Nat → Nat} {rf : rc_F} (hT : rc_T Y sh rf) (z : rc_Z) (a0 : Nat) (h0 : sh a0 = 9) {shS : Nat → Nat} {rfS : rc_F} {σS : rc_S} (hTS : rc_T Y shS rfS) (t1 : Nat) (h1 : shS t1 = 13) (hd : ∀ q, sh q ≠ 0 → shS q = 0) {L : List Nat} (hL : L.length = 4) (hp : pTx σS t1 (rfS t1 0) L) (sz : Nat) (σ σ' : rc_S) (r : Int32) (hm : f_L_reads rf z a0 L σ = some (r, σ')) : Met l yL_reads (Cond.code yL_reads cL_reads 4 (some .int) :: rc_big) ({ frames := 9, cells := 5, slots := 30, locals := 202 } : Room) (rc_PR Y sh rf σ shS rfS σS sz z [.ref a0, .ref t1]) (va_Qi (fun (r' : Int32) (_ : Unit) => r' = r) (fun _ t => rc_W Y sh rf σ' t.heap) (rc_AR shS sh sz)) 5 30 (rc_AR shS sh sz) := by
  refine Met.ofW (cc := cL_reads) (maxL := 4) (ret := (some .int)) (by decide +kernel) rfl ?_
  intro p e s m args below meth c s₁ B hml hv
  obtain ⟨rfl, hsz, ⟨hW, hK, hE⟩, hN, hXz, hWS⟩ := hv
  have hx := B.exec
  have hb := B.bytes
  have hr := B.returns
  have hts : ∀ w ∈ rc_big, w.before _ s = true := fun w h => atoms_spec (ws := Cond.code yL_reads cL_reads 4 (some .int) :: rc_big) B.pre w (List.mem_cons_of_mem _ h)
  have hown : s.vm.findClass RL = some m.cls := findClass_of_methodNamed B.named
  have hlocks := B.notSynchronized
  clear B
  subst hsz
  have hS : va_S (rc_AR shS sh s.heap.size) s.heap s.heap [] := va_S.rf
  have hAB : ∀ q, rc_AR shS sh s.heap.size q → Y.1 ≤ q := fun q h => by
    rcases h with h | h | h
    · exact rc_t_b hTS h
    · exact rc_t_b hT h
    · exact Nat.le_trans hE.1 h
  have hd2 : ∀ q, shS q ≠ 0 → sh q = 0 := fun q h => Classical.byContradiction (fun h2 => h (hd q h2))
  have hl := lv_entry ([.ref a0, .ref t1]) (n := 4) (Nat.le_of_ble_eq_true rfl)
  rw [lg_entry_eq]
  generalize (lg_sl ([.ref a0, .ref t1]) ++ List.replicate (4 - (lg_sl ([.ref a0, .ref t1])).length) Slot.unset).toArray = ls at hl ⊢
  have hl : lv_has ls 4 [(0, .ref a0), (1, .ref t1)] := hl
  have lp : ∀ (d k : Nat), k + d = 4 → ∀ (H : Heap) (locs : List Loc) (ls : Array Slot) (σ : rc_S), f_L_reads rf z a0 (L.drop k) σ = some (r, σ') → rc_W Y sh rf σ H → rc_W Y shS rfS σS H → va_S (rc_AR shS sh s.heap.size) s.heap H locs → lv_has ls 4 [(2, .int (Int32.ofNat k)), (0, .ref a0), (1, .ref t1)] → W p l e (headSpec (Cond.code yL_reads cL_reads 4 (some .int) :: rc_big) ({ frames := 9, cells := 5, slots := 30, locals := 202 } : Room)).room s m (([.ref a0, .ref t1] : List Value).toArray) below meth c H locs (k * 1) (k * 6) (MQ below (va_Qi (fun (r' : Int32) (_ : Unit) => r' = r) (fun _ t => rc_W Y sh rf σ' t.heap) (rc_AR shS sh s.heap.size)) (([.ref a0, .ref t1] : List Value).toArray) s 5 30 (rc_AR shS sh s.heap.size)) (F0 m 2 ls []) := by
    intro d
    induction d with
    | zero =>
      intro k hk
      intro H locs ls σ hm hW hWS hS hl
      have hB := rc_mono hS hAB
      have hAS : ∀ q, rc_A shS H.size q → rc_AR shS sh s.heap.size q := fun q h => h.elim Or.inl (fun h => Or.inr (Or.inr (Nat.le_trans hS.1 h)))
      refine lv_iload_n hx hb dL_reads_2 rfl (lv_at hl 0 rfl) ?_
      refine lv_aload_n hx hb dL_reads_3 rfl (lv_at hl 2 rfl) ?_
      refine rc_gi hS hAS (va_runV (As := []) (rest := [.int (Int32.ofNat k)]) ⟨hx, hb, hml, hown, hts⟩ (k_J0_length_8abf5_13 l hTS t1 h1 H.size _ _ _ (pb_len_13 hp)) (cwV 0 hts (rc_gV tw_5_115 tw_4_212 tw_4_213 tw_1_12 tw_4_214) rfl rfl rfl (by decide +kernel) ⟨Nat.le_of_ble_eq_true rfl, Nat.le_of_ble_eq_true rfl⟩) (rc_preVB hWS hK hE hB h1 (by decide) rfl (q := (RJ0, TJ0, 4)) rfl []) rfl rfl hl.1 rfl (lv_room (Nat.le_of_ble_eq_true rfl)) dL_reads_4 ⟨by show k * 1 + 0 ≤ 5; omega, by show k * 6 + 0 ≤ 30; omega⟩) (fun H1 locs hWS1 _ hq1 hS => ?_)
      have hW := hW.keptA (sh := shS) hd (Nat.le_refl _) hq1
      have hWS := hWS1
      have hB := rc_mono hS hAB
      have hk2 : k = 4 := by omega
      refine lv_icmp_ge (tgt := 26) hx hb dL_reads_7 (by decide) (fun _ => ?_) (fun c9 => absurd (show (4 : Int32) ≤ Int32.ofNat k by rw [hk2]; decide) c9)
      rw [List.drop_eq_nil_of_le (by omega)] at hm
      have hc : f_L_commands rf z a0 σ = some (r, σ') := hm
      have hAM : ∀ q, rc_A sh H1.size q → rc_AR shS sh s.heap.size q := fun q h => Or.inr (h.elim Or.inl (fun h => Or.inr (Nat.le_trans hS.1 h)))
      refine lv_aload_n hx hb dL_reads_26 rfl (lv_at hl 1 rfl) ?_
      refine rc_gi hS hAM (vx_runSW (As := [.ref a0]) (rest := []) ⟨hx, hb, hml, hown, hts⟩ (k_L_commands l hl9 hT z a0 h0 H1.size _ _ _ hc) (vx_cwSW 1 hts (rc_gS tw_5_167 tw_5_168 tw_1_0 tw_5_169) rfl rfl rfl (by decide +kernel) ⟨Nat.le_of_ble_eq_true rfl, Nat.le_of_ble_eq_true rfl⟩) (rc_preSLB hW hK hE hN hXz hB [.ref a0]) rfl rfl hl.1 rfl (lv_room (Nat.le_of_ble_eq_true rfl)) dL_reads_27 ⟨by show k * 1 + 1 ≤ 5; omega, by show k * 6 + 6 ≤ 30; omega⟩) (fun H2 locs hW1 _ hq1 hS => ?_)
      exact rc_iretA hx hb hr hlocks hW1 hS (by show k * 1 + 1 ≤ 5; omega) (by show k * 6 + 6 ≤ 30; omega) dL_reads_30
    | succ d ih =>
      intro k hk
      intro H locs ls σ hm hW hWS hS hl
      have hB := rc_mono hS hAB
      have hAS : ∀ q, rc_A shS H.size q → rc_AR shS sh s.heap.size q := fun q h => h.elim Or.inl (fun h => Or.inr (Or.inr (Nat.le_trans hS.1 h)))
      refine lv_iload_n hx hb dL_reads_2 rfl (lv_at hl 0 rfl) ?_
      refine lv_aload_n hx hb dL_reads_3 rfl (lv_at hl 2 rfl) ?_
      refine rc_gi hS hAS (va_runV (As := []) (rest := [.int (Int32.ofNat k)]) ⟨hx, hb, hml, hown, hts⟩ (k_J0_length_8abf5_13 l hTS t1 h1 H.size _ _ _ (pb_len_13 hp)) (cwV 0 hts (rc_gV tw_5_115 tw_4_212 tw_4_213 tw_1_12 tw_4_214) rfl rfl rfl (by decide +kernel) ⟨Nat.le_of_ble_eq_true rfl, Nat.le_of_ble_eq_true rfl⟩) (rc_preVB hWS hK hE hB h1 (by decide) rfl (q := (RJ0, TJ0, 4)) rfl []) rfl rfl hl.1 rfl (lv_room (Nat.le_of_ble_eq_true rfl)) dL_reads_4 ⟨by show k * 1 + 0 ≤ 5; omega, by show k * 6 + 0 ≤ 30; omega⟩) (fun H1 locs hWS1 _ hq1 hS => ?_)
      have hW := hW.keptA (sh := shS) hd (Nat.le_refl _) hq1
      have hWS := hWS1
      have hB := rc_mono hS hAB
      have hkn : k < L.length := by omega
      have hv : L[k]? = some L[k] := List.getElem?_eq_getElem hkn
      refine lv_icmp_ge (tgt := 26) hx hb dL_reads_7 (by decide) (fun c9 => absurd ((pq_le (n := 4) (by decide) (by omega)).mp c9) (by omega)) (fun _ => ?_)
      rw [List.drop_eq_getElem_cons hkn] at hm
      rw [f_L_reads] at hm
      obtain ⟨w, σ1, hc, hm0⟩ := rc_bd_inv hm
      refine lv_aload_n hx hb dL_reads_10 rfl (lv_at hl 1 rfl) ?_
      refine lv_aload_n hx hb dL_reads_11 rfl (lv_at hl 2 rfl) ?_
      refine lv_iload_n hx hb dL_reads_12 rfl (lv_at hl 0 rfl) ?_
      have hAS : ∀ q, rc_A shS H1.size q → rc_AR shS sh s.heap.size q := fun q h => h.elim Or.inl (fun h => Or.inr (Or.inr (Nat.le_trans hS.1 h)))
      refine rc_gi hS hAS (va_runV (As := [.int (Int32.ofNat k)]) (rest := [.ref a0]) ⟨hx, hb, hml, hown, hts⟩ (k_J0_charAt_5068e_13 l hTS t1 (Int32.ofNat k) h1 H1.size _ _ _ (pb_chr_13 rfl hp hL hv)) (cwV 1 hts (rc_gV tw_5_116 tw_5_117 tw_5_118 tw_1_12 tw_5_119) rfl rfl rfl (by decide +kernel) ⟨Nat.le_of_ble_eq_true rfl, Nat.le_of_ble_eq_true rfl⟩) (rc_preVB hWS hK hE hB h1 (by decide) rfl (q := (RJ0, TJ0, 4)) rfl [.int (Int32.ofNat k)]) rfl rfl hl.1 rfl (lv_room (Nat.le_of_ble_eq_true rfl)) dL_reads_13 ⟨by show k * 1 + 0 ≤ 5; omega, by show k * 6 + 0 ≤ 30; omega⟩) (fun H3 locs hWS1 _ hq1 hS => ?_)
      have hW := hW.keptA (sh := shS) hd (Nat.le_refl _) hq1
      have hWS := hWS1
      have hB := rc_mono hS hAB
      have hAM : ∀ q, rc_A sh H3.size q → rc_AR shS sh s.heap.size q := fun q h => Or.inr (h.elim Or.inl (fun h => Or.inr (Nat.le_trans hS.1 h)))
      refine rc_gi hS hAM (vx_runSW (As := [.ref a0, .int (Int32.ofNat L[k])]) (rest := []) ⟨hx, hb, hml, hown, hts⟩ (k_L_append l hl9 hT z a0 (Int32.ofNat L[k]) h0 H3.size _ _ _ hc) (vx_cwSW 2 hts (rc_gS tw_5_140 tw_5_141 tw_1_0 tw_5_142) rfl rfl rfl (by decide +kernel) ⟨Nat.le_of_ble_eq_true rfl, Nat.le_of_ble_eq_true rfl⟩) (rc_preSLB hW hK hE hN hXz hB [.ref a0, .int (Int32.ofNat L[k])]) rfl rfl hl.1 rfl (lv_room (Nat.le_of_ble_eq_true rfl)) dL_reads_16 ⟨by show k * 1 + 1 ≤ 5; omega, by show k * 6 + 6 ≤ 30; omega⟩) (fun H2 locs hW1 _ hq1 hS => ?_)
      have hWS := hWS.keptA (sh := sh) hd2 (Nat.le_refl _) hq1
      have hW := hW1
      have hB := rc_mono hS hAB
      refine lv_istore_n (lv' := [(3, .int w), (2, .int (Int32.ofNat k)), (0, .ref a0), (1, .ref t1)]) hx hb dL_reads_19 rfl hl (by decide) rfl (fun ls hl => ?_)
      refine lv_iinc (v := Int32.ofNat (k + 1)) (lv' := [(2, .int (Int32.ofNat (k + 1))), (3, .int w), (0, .ref a0), (1, .ref t1)]) hx hb dL_reads_20 hl (k := 1) rfl (by rw [← pq_s]; rfl) (by decide) rfl (fun ls hl => ?_)
      refine lv_goto (tgt := 2) hx hb dL_reads_23 (by decide) ?_
      refine W.widen (k := (k + 1) * 1) (n := (k + 1) * 6) (by omega) (by omega) ?_
      exact ih (k + 1) (by omega) H2 _ _ _ hm0 hW hWS hS (lv_sub hl [0, 2, 3] rfl)
  refine lv_iconst (v := 0) hx hb dL_reads_0 (by decide) ?_
  refine lv_istore_n (lv' := [(2, .int 0), (0, .ref a0), (1, .ref t1)]) hx hb dL_reads_1 rfl hl (by decide) rfl (fun ls hl => ?_)
  exact lp 4 0 (by omega) s.heap [] ls σ (by rw [List.drop_zero]; exact hm) hW hWS hS hl
set_option maxHeartbeats 4000000 in
set_option maxRecDepth 100000 in
theorem k_L_reads_14 (l : Launch) (hl9 : l.stackTraces = false) {Y : rc_Y} {sh : Nat → Nat} {rf : rc_F} (hT : rc_T Y sh rf) (z : rc_Z) (a0 : Nat) (h0 : sh a0 = 9) {shS : Nat → Nat} {rfS : rc_F} {σS : rc_S} (hTS : rc_T Y shS rfS) (t1 : Nat) (h1 : shS t1 = 14) (hd : ∀ q, sh q ≠ 0 → shS q = 0) {L : List Nat} (hL : L.length = 6) (hp : pTx σS t1 (rfS t1 0) L) (sz : Nat) (σ σ' : rc_S) (r : Int32) (hm : f_L_reads rf z a0 L σ = some (r, σ')) : Met l yL_reads (Cond.code yL_reads cL_reads 4 (some .int) :: rc_big) ({ frames := 9, cells := 7, slots := 42, locals := 202 } : Room) (rc_PR Y sh rf σ shS rfS σS sz z [.ref a0, .ref t1]) (va_Qi (fun (r' : Int32) (_ : Unit) => r' = r) (fun _ t => rc_W Y sh rf σ' t.heap) (rc_AR shS sh sz)) 7 42 (rc_AR shS sh sz) := by
  refine Met.ofW (cc := cL_reads) (maxL := 4) (ret := (some .int)) (by decide +kernel) rfl ?_
  intro p e s m args below meth c s₁ B hml hv
  obtain ⟨rfl, hsz, ⟨hW, hK, hE⟩, hN, hXz, hWS⟩ := hv
  have hx := B.exec
  have hb := B.bytes
  have hr := B.returns
  have hts : ∀ w ∈ rc_big, w.before _ s = true := fun w h => atoms_spec (ws := Cond.code yL_reads cL_reads 4 (some .int) :: rc_big) B.pre w (List.mem_cons_of_mem _ h)
  have hown : s.vm.findClass RL = some m.cls := findClass_of_methodNamed B.named
  have hlocks := B.notSynchronized
  clear B
  subst hsz
  have hS : va_S (rc_AR shS sh s.heap.size) s.heap s.heap [] := va_S.rf
  have hAB : ∀ q, rc_AR shS sh s.heap.size q → Y.1 ≤ q := fun q h => by
    rcases h with h | h | h
    · exact rc_t_b hTS h
    · exact rc_t_b hT h
    · exact Nat.le_trans hE.1 h
  have hd2 : ∀ q, shS q ≠ 0 → sh q = 0 := fun q h => Classical.byContradiction (fun h2 => h (hd q h2))
  have hl := lv_entry ([.ref a0, .ref t1]) (n := 4) (Nat.le_of_ble_eq_true rfl)
  rw [lg_entry_eq]
  generalize (lg_sl ([.ref a0, .ref t1]) ++ List.replicate (4 - (lg_sl ([.ref a0, .ref t1])).length) Slot.unset).toArray = ls at hl ⊢
  have hl : lv_has ls 4 [(0, .ref a0), (1, .ref t1)] := hl
  have lp : ∀ (d k : Nat), k + d = 6 → ∀ (H : Heap) (locs : List Loc) (ls : Array Slot) (σ : rc_S), f_L_reads rf z a0 (L.drop k) σ = some (r, σ') → rc_W Y sh rf σ H → rc_W Y shS rfS σS H → va_S (rc_AR shS sh s.heap.size) s.heap H locs → lv_has ls 4 [(2, .int (Int32.ofNat k)), (0, .ref a0), (1, .ref t1)] → W p l e (headSpec (Cond.code yL_reads cL_reads 4 (some .int) :: rc_big) ({ frames := 9, cells := 7, slots := 42, locals := 202 } : Room)).room s m (([.ref a0, .ref t1] : List Value).toArray) below meth c H locs (k * 1) (k * 6) (MQ below (va_Qi (fun (r' : Int32) (_ : Unit) => r' = r) (fun _ t => rc_W Y sh rf σ' t.heap) (rc_AR shS sh s.heap.size)) (([.ref a0, .ref t1] : List Value).toArray) s 7 42 (rc_AR shS sh s.heap.size)) (F0 m 2 ls []) := by
    intro d
    induction d with
    | zero =>
      intro k hk
      intro H locs ls σ hm hW hWS hS hl
      have hB := rc_mono hS hAB
      have hAS : ∀ q, rc_A shS H.size q → rc_AR shS sh s.heap.size q := fun q h => h.elim Or.inl (fun h => Or.inr (Or.inr (Nat.le_trans hS.1 h)))
      refine lv_iload_n hx hb dL_reads_2 rfl (lv_at hl 0 rfl) ?_
      refine lv_aload_n hx hb dL_reads_3 rfl (lv_at hl 2 rfl) ?_
      refine rc_gi hS hAS (va_runV (As := []) (rest := [.int (Int32.ofNat k)]) ⟨hx, hb, hml, hown, hts⟩ (k_J0_length_8abf5_14 l hTS t1 h1 H.size _ _ _ (pb_len_14 hp)) (cwV 0 hts (rc_gV tw_5_115 tw_4_212 tw_4_213 tw_1_12 tw_4_214) rfl rfl rfl (by decide +kernel) ⟨Nat.le_of_ble_eq_true rfl, Nat.le_of_ble_eq_true rfl⟩) (rc_preVB hWS hK hE hB h1 (by decide) rfl (q := (RJ0, TJ0, 4)) rfl []) rfl rfl hl.1 rfl (lv_room (Nat.le_of_ble_eq_true rfl)) dL_reads_4 ⟨by show k * 1 + 0 ≤ 7; omega, by show k * 6 + 0 ≤ 42; omega⟩) (fun H1 locs hWS1 _ hq1 hS => ?_)
      have hW := hW.keptA (sh := shS) hd (Nat.le_refl _) hq1
      have hWS := hWS1
      have hB := rc_mono hS hAB
      have hk2 : k = 6 := by omega
      refine lv_icmp_ge (tgt := 26) hx hb dL_reads_7 (by decide) (fun _ => ?_) (fun c9 => absurd (show (6 : Int32) ≤ Int32.ofNat k by rw [hk2]; decide) c9)
      rw [List.drop_eq_nil_of_le (by omega)] at hm
      have hc : f_L_commands rf z a0 σ = some (r, σ') := hm
      have hAM : ∀ q, rc_A sh H1.size q → rc_AR shS sh s.heap.size q := fun q h => Or.inr (h.elim Or.inl (fun h => Or.inr (Nat.le_trans hS.1 h)))
      refine lv_aload_n hx hb dL_reads_26 rfl (lv_at hl 1 rfl) ?_
      refine rc_gi hS hAM (vx_runSW (As := [.ref a0]) (rest := []) ⟨hx, hb, hml, hown, hts⟩ (k_L_commands l hl9 hT z a0 h0 H1.size _ _ _ hc) (vx_cwSW 1 hts (rc_gS tw_5_167 tw_5_168 tw_1_0 tw_5_169) rfl rfl rfl (by decide +kernel) ⟨Nat.le_of_ble_eq_true rfl, Nat.le_of_ble_eq_true rfl⟩) (rc_preSLB hW hK hE hN hXz hB [.ref a0]) rfl rfl hl.1 rfl (lv_room (Nat.le_of_ble_eq_true rfl)) dL_reads_27 ⟨by show k * 1 + 1 ≤ 7; omega, by show k * 6 + 6 ≤ 42; omega⟩) (fun H2 locs hW1 _ hq1 hS => ?_)
      exact rc_iretA hx hb hr hlocks hW1 hS (by show k * 1 + 1 ≤ 7; omega) (by show k * 6 + 6 ≤ 42; omega) dL_reads_30
    | succ d ih =>
      intro k hk
      intro H locs ls σ hm hW hWS hS hl
      have hB := rc_mono hS hAB
      have hAS : ∀ q, rc_A shS H.size q → rc_AR shS sh s.heap.size q := fun q h => h.elim Or.inl (fun h => Or.inr (Or.inr (Nat.le_trans hS.1 h)))
      refine lv_iload_n hx hb dL_reads_2 rfl (lv_at hl 0 rfl) ?_
      refine lv_aload_n hx hb dL_reads_3 rfl (lv_at hl 2 rfl) ?_
      refine rc_gi hS hAS (va_runV (As := []) (rest := [.int (Int32.ofNat k)]) ⟨hx, hb, hml, hown, hts⟩ (k_J0_length_8abf5_14 l hTS t1 h1 H.size _ _ _ (pb_len_14 hp)) (cwV 0 hts (rc_gV tw_5_115 tw_4_212 tw_4_213 tw_1_12 tw_4_214) rfl rfl rfl (by decide +kernel) ⟨Nat.le_of_ble_eq_true rfl, Nat.le_of_ble_eq_true rfl⟩) (rc_preVB hWS hK hE hB h1 (by decide) rfl (q := (RJ0, TJ0, 4)) rfl []) rfl rfl hl.1 rfl (lv_room (Nat.le_of_ble_eq_true rfl)) dL_reads_4 ⟨by show k * 1 + 0 ≤ 7; omega, by show k * 6 + 0 ≤ 42; omega⟩) (fun H1 locs hWS1 _ hq1 hS => ?_)
      have hW := hW.keptA (sh := shS) hd (Nat.le_refl _) hq1
      have hWS := hWS1
      have hB := rc_mono hS hAB
      have hkn : k < L.length := by omega
      have hv : L[k]? = some L[k] := List.getElem?_eq_getElem hkn
      refine lv_icmp_ge (tgt := 26) hx hb dL_reads_7 (by decide) (fun c9 => absurd ((pq_le (n := 6) (by decide) (by omega)).mp c9) (by omega)) (fun _ => ?_)
      rw [List.drop_eq_getElem_cons hkn] at hm
      rw [f_L_reads] at hm
      obtain ⟨w, σ1, hc, hm0⟩ := rc_bd_inv hm
      refine lv_aload_n hx hb dL_reads_10 rfl (lv_at hl 1 rfl) ?_
      refine lv_aload_n hx hb dL_reads_11 rfl (lv_at hl 2 rfl) ?_
      refine lv_iload_n hx hb dL_reads_12 rfl (lv_at hl 0 rfl) ?_
      have hAS : ∀ q, rc_A shS H1.size q → rc_AR shS sh s.heap.size q := fun q h => h.elim Or.inl (fun h => Or.inr (Or.inr (Nat.le_trans hS.1 h)))
      refine rc_gi hS hAS (va_runV (As := [.int (Int32.ofNat k)]) (rest := [.ref a0]) ⟨hx, hb, hml, hown, hts⟩ (k_J0_charAt_5068e_14 l hTS t1 (Int32.ofNat k) h1 H1.size _ _ _ (pb_chr_14 rfl hp hL hv)) (cwV 1 hts (rc_gV tw_5_116 tw_5_117 tw_5_118 tw_1_12 tw_5_119) rfl rfl rfl (by decide +kernel) ⟨Nat.le_of_ble_eq_true rfl, Nat.le_of_ble_eq_true rfl⟩) (rc_preVB hWS hK hE hB h1 (by decide) rfl (q := (RJ0, TJ0, 4)) rfl [.int (Int32.ofNat k)]) rfl rfl hl.1 rfl (lv_room (Nat.le_of_ble_eq_true rfl)) dL_reads_13 ⟨by show k * 1 + 0 ≤ 7; omega, by show k * 6 + 0 ≤ 42; omega⟩) (fun H3 locs hWS1 _ hq1 hS => ?_)
      have hW := hW.keptA (sh := shS) hd (Nat.le_refl _) hq1
      have hWS := hWS1
      have hB := rc_mono hS hAB
      have hAM : ∀ q, rc_A sh H3.size q → rc_AR shS sh s.heap.size q := fun q h => Or.inr (h.elim Or.inl (fun h => Or.inr (Nat.le_trans hS.1 h)))
      refine rc_gi hS hAM (vx_runSW (As := [.ref a0, .int (Int32.ofNat L[k])]) (rest := []) ⟨hx, hb, hml, hown, hts⟩ (k_L_append l hl9 hT z a0 (Int32.ofNat L[k]) h0 H3.size _ _ _ hc) (vx_cwSW 2 hts (rc_gS tw_5_140 tw_5_141 tw_1_0 tw_5_142) rfl rfl rfl (by decide +kernel) ⟨Nat.le_of_ble_eq_true rfl, Nat.le_of_ble_eq_true rfl⟩) (rc_preSLB hW hK hE hN hXz hB [.ref a0, .int (Int32.ofNat L[k])]) rfl rfl hl.1 rfl (lv_room (Nat.le_of_ble_eq_true rfl)) dL_reads_16 ⟨by show k * 1 + 1 ≤ 7; omega, by show k * 6 + 6 ≤ 42; omega⟩) (fun H2 locs hW1 _ hq1 hS => ?_)
      have hWS := hWS.keptA (sh := sh) hd2 (Nat.le_refl _) hq1
      have hW := hW1
      have hB := rc_mono hS hAB
      refine lv_istore_n (lv' := [(3, .int w), (2, .int (Int32.ofNat k)), (0, .ref a0), (1, .ref t1)]) hx hb dL_reads_19 rfl hl (by decide) rfl (fun ls hl => ?_)
      refine lv_iinc (v := Int32.ofNat (k + 1)) (lv' := [(2, .int (Int32.ofNat (k + 1))), (3, .int w), (0, .ref a0), (1, .ref t1)]) hx hb dL_reads_20 hl (k := 1) rfl (by rw [← pq_s]; rfl) (by decide) rfl (fun ls hl => ?_)
      refine lv_goto (tgt := 2) hx hb dL_reads_23 (by decide) ?_
      refine W.widen (k := (k + 1) * 1) (n := (k + 1) * 6) (by omega) (by omega) ?_
      exact ih (k + 1) (by omega) H2 _ _ _ hm0 hW hWS hS (lv_sub hl [0, 2, 3] rfl)
  refine lv_iconst (v := 0) hx hb dL_reads_0 (by decide) ?_
  refine lv_istore_n (lv' := [(2, .int 0), (0, .ref a0), (1, .ref t1)]) hx hb dL_reads_1 rfl hl (by decide) rfl (fun ls hl => ?_)
  exact lp 6 0 (by omega) s.heap [] ls σ (by rw [List.drop_zero]; exact hm) hW hWS hS hl
set_option maxHeartbeats 4000000 in
set_option maxRecDepth 100000 in
theorem k_L_reads_15 (l : Launch) (hl9 : l.stackTraces = false) {Y : rc_Y} {sh : Nat → Nat} {rf : rc_F} (hT : rc_T Y sh rf) (z : rc_Z) (a0 : Nat) (h0 : sh a0 = 9) {shS : Nat → Nat} {rfS : rc_F} {σS : rc_S} (hTS : rc_T Y shS rfS) (t1 : Nat) (h1 : shS t1 = 15) (hd : ∀ q, sh q ≠ 0 → shS q = 0) {L : List Nat} (hL : L.length = 8) (hp : pTx σS t1 (rfS t1 0) L) (sz : Nat) (σ σ' : rc_S) (r : Int32) (hm : f_L_reads rf z a0 L σ = some (r, σ')) : Met l yL_reads (Cond.code yL_reads cL_reads 4 (some .int) :: rc_big) ({ frames := 9, cells := 9, slots := 54, locals := 202 } : Room) (rc_PR Y sh rf σ shS rfS σS sz z [.ref a0, .ref t1]) (va_Qi (fun (r' : Int32) (_ : Unit) => r' = r) (fun _ t => rc_W Y sh rf σ' t.heap) (rc_AR shS sh sz)) 9 54 (rc_AR shS sh sz) := by
  refine Met.ofW (cc := cL_reads) (maxL := 4) (ret := (some .int)) (by decide +kernel) rfl ?_
  intro p e s m args below meth c s₁ B hml hv
  obtain ⟨rfl, hsz, ⟨hW, hK, hE⟩, hN, hXz, hWS⟩ := hv
  have hx := B.exec
  have hb := B.bytes
  have hr := B.returns
  have hts : ∀ w ∈ rc_big, w.before _ s = true := fun w h => atoms_spec (ws := Cond.code yL_reads cL_reads 4 (some .int) :: rc_big) B.pre w (List.mem_cons_of_mem _ h)
  have hown : s.vm.findClass RL = some m.cls := findClass_of_methodNamed B.named
  have hlocks := B.notSynchronized
  clear B
  subst hsz
  have hS : va_S (rc_AR shS sh s.heap.size) s.heap s.heap [] := va_S.rf
  have hAB : ∀ q, rc_AR shS sh s.heap.size q → Y.1 ≤ q := fun q h => by
    rcases h with h | h | h
    · exact rc_t_b hTS h
    · exact rc_t_b hT h
    · exact Nat.le_trans hE.1 h
  have hd2 : ∀ q, shS q ≠ 0 → sh q = 0 := fun q h => Classical.byContradiction (fun h2 => h (hd q h2))
  have hl := lv_entry ([.ref a0, .ref t1]) (n := 4) (Nat.le_of_ble_eq_true rfl)
  rw [lg_entry_eq]
  generalize (lg_sl ([.ref a0, .ref t1]) ++ List.replicate (4 - (lg_sl ([.ref a0, .ref t1])).length) Slot.unset).toArray = ls at hl ⊢
  have hl : lv_has ls 4 [(0, .ref a0), (1, .ref t1)] := hl
  have lp : ∀ (d k : Nat), k + d = 8 → ∀ (H : Heap) (locs : List Loc) (ls : Array Slot) (σ : rc_S), f_L_reads rf z a0 (L.drop k) σ = some (r, σ') → rc_W Y sh rf σ H → rc_W Y shS rfS σS H → va_S (rc_AR shS sh s.heap.size) s.heap H locs → lv_has ls 4 [(2, .int (Int32.ofNat k)), (0, .ref a0), (1, .ref t1)] → W p l e (headSpec (Cond.code yL_reads cL_reads 4 (some .int) :: rc_big) ({ frames := 9, cells := 9, slots := 54, locals := 202 } : Room)).room s m (([.ref a0, .ref t1] : List Value).toArray) below meth c H locs (k * 1) (k * 6) (MQ below (va_Qi (fun (r' : Int32) (_ : Unit) => r' = r) (fun _ t => rc_W Y sh rf σ' t.heap) (rc_AR shS sh s.heap.size)) (([.ref a0, .ref t1] : List Value).toArray) s 9 54 (rc_AR shS sh s.heap.size)) (F0 m 2 ls []) := by
    intro d
    induction d with
    | zero =>
      intro k hk
      intro H locs ls σ hm hW hWS hS hl
      have hB := rc_mono hS hAB
      have hAS : ∀ q, rc_A shS H.size q → rc_AR shS sh s.heap.size q := fun q h => h.elim Or.inl (fun h => Or.inr (Or.inr (Nat.le_trans hS.1 h)))
      refine lv_iload_n hx hb dL_reads_2 rfl (lv_at hl 0 rfl) ?_
      refine lv_aload_n hx hb dL_reads_3 rfl (lv_at hl 2 rfl) ?_
      refine rc_gi hS hAS (va_runV (As := []) (rest := [.int (Int32.ofNat k)]) ⟨hx, hb, hml, hown, hts⟩ (k_J0_length_8abf5_15 l hTS t1 h1 H.size _ _ _ (pb_len_15 hp)) (cwV 0 hts (rc_gV tw_5_115 tw_4_212 tw_4_213 tw_1_12 tw_4_214) rfl rfl rfl (by decide +kernel) ⟨Nat.le_of_ble_eq_true rfl, Nat.le_of_ble_eq_true rfl⟩) (rc_preVB hWS hK hE hB h1 (by decide) rfl (q := (RJ0, TJ0, 4)) rfl []) rfl rfl hl.1 rfl (lv_room (Nat.le_of_ble_eq_true rfl)) dL_reads_4 ⟨by show k * 1 + 0 ≤ 9; omega, by show k * 6 + 0 ≤ 54; omega⟩) (fun H1 locs hWS1 _ hq1 hS => ?_)
      have hW := hW.keptA (sh := shS) hd (Nat.le_refl _) hq1
      have hWS := hWS1
      have hB := rc_mono hS hAB
      have hk2 : k = 8 := by omega
      refine lv_icmp_ge (tgt := 26) hx hb dL_reads_7 (by decide) (fun _ => ?_) (fun c9 => absurd (show (8 : Int32) ≤ Int32.ofNat k by rw [hk2]; decide) c9)
      rw [List.drop_eq_nil_of_le (by omega)] at hm
      have hc : f_L_commands rf z a0 σ = some (r, σ') := hm
      have hAM : ∀ q, rc_A sh H1.size q → rc_AR shS sh s.heap.size q := fun q h => Or.inr (h.elim Or.inl (fun h => Or.inr (Nat.le_trans hS.1 h)))
      refine lv_aload_n hx hb dL_reads_26 rfl (lv_at hl 1 rfl) ?_
      refine rc_gi hS hAM (vx_runSW (As := [.ref a0]) (rest := []) ⟨hx, hb, hml, hown, hts⟩ (k_L_commands l hl9 hT z a0 h0 H1.size _ _ _ hc) (vx_cwSW 1 hts (rc_gS tw_5_167 tw_5_168 tw_1_0 tw_5_169) rfl rfl rfl (by decide +kernel) ⟨Nat.le_of_ble_eq_true rfl, Nat.le_of_ble_eq_true rfl⟩) (rc_preSLB hW hK hE hN hXz hB [.ref a0]) rfl rfl hl.1 rfl (lv_room (Nat.le_of_ble_eq_true rfl)) dL_reads_27 ⟨by show k * 1 + 1 ≤ 9; omega, by show k * 6 + 6 ≤ 54; omega⟩) (fun H2 locs hW1 _ hq1 hS => ?_)
      exact rc_iretA hx hb hr hlocks hW1 hS (by show k * 1 + 1 ≤ 9; omega) (by show k * 6 + 6 ≤ 54; omega) dL_reads_30
    | succ d ih =>
      intro k hk
      intro H locs ls σ hm hW hWS hS hl
      have hB := rc_mono hS hAB
      have hAS : ∀ q, rc_A shS H.size q → rc_AR shS sh s.heap.size q := fun q h => h.elim Or.inl (fun h => Or.inr (Or.inr (Nat.le_trans hS.1 h)))
      refine lv_iload_n hx hb dL_reads_2 rfl (lv_at hl 0 rfl) ?_
      refine lv_aload_n hx hb dL_reads_3 rfl (lv_at hl 2 rfl) ?_
      refine rc_gi hS hAS (va_runV (As := []) (rest := [.int (Int32.ofNat k)]) ⟨hx, hb, hml, hown, hts⟩ (k_J0_length_8abf5_15 l hTS t1 h1 H.size _ _ _ (pb_len_15 hp)) (cwV 0 hts (rc_gV tw_5_115 tw_4_212 tw_4_213 tw_1_12 tw_4_214) rfl rfl rfl (by decide +kernel) ⟨Nat.le_of_ble_eq_true rfl, Nat.le_of_ble_eq_true rfl⟩) (rc_preVB hWS hK hE hB h1 (by decide) rfl (q := (RJ0, TJ0, 4)) rfl []) rfl rfl hl.1 rfl (lv_room (Nat.le_of_ble_eq_true rfl)) dL_reads_4 ⟨by show k * 1 + 0 ≤ 9; omega, by show k * 6 + 0 ≤ 54; omega⟩) (fun H1 locs hWS1 _ hq1 hS => ?_)
      have hW := hW.keptA (sh := shS) hd (Nat.le_refl _) hq1
      have hWS := hWS1
      have hB := rc_mono hS hAB
      have hkn : k < L.length := by omega
      have hv : L[k]? = some L[k] := List.getElem?_eq_getElem hkn
      refine lv_icmp_ge (tgt := 26) hx hb dL_reads_7 (by decide) (fun c9 => absurd ((pq_le (n := 8) (by decide) (by omega)).mp c9) (by omega)) (fun _ => ?_)
      rw [List.drop_eq_getElem_cons hkn] at hm
      rw [f_L_reads] at hm
      obtain ⟨w, σ1, hc, hm0⟩ := rc_bd_inv hm
      refine lv_aload_n hx hb dL_reads_10 rfl (lv_at hl 1 rfl) ?_
      refine lv_aload_n hx hb dL_reads_11 rfl (lv_at hl 2 rfl) ?_
      refine lv_iload_n hx hb dL_reads_12 rfl (lv_at hl 0 rfl) ?_
      have hAS : ∀ q, rc_A shS H1.size q → rc_AR shS sh s.heap.size q := fun q h => h.elim Or.inl (fun h => Or.inr (Or.inr (Nat.le_trans hS.1 h)))
      refine rc_gi hS hAS (va_runV (As := [.int (Int32.ofNat k)]) (rest := [.ref a0]) ⟨hx, hb, hml, hown, hts⟩ (k_J0_charAt_5068e_15 l hTS t1 (Int32.ofNat k) h1 H1.size _ _ _ (pb_chr_15 rfl hp hL hv)) (cwV 1 hts (rc_gV tw_5_116 tw_5_117 tw_5_118 tw_1_12 tw_5_119) rfl rfl rfl (by decide +kernel) ⟨Nat.le_of_ble_eq_true rfl, Nat.le_of_ble_eq_true rfl⟩) (rc_preVB hWS hK hE hB h1 (by decide) rfl (q := (RJ0, TJ0, 4)) rfl [.int (Int32.ofNat k)]) rfl rfl hl.1 rfl (lv_room (Nat.le_of_ble_eq_true rfl)) dL_reads_13 ⟨by show k * 1 + 0 ≤ 9; omega, by show k * 6 + 0 ≤ 54; omega⟩) (fun H3 locs hWS1 _ hq1 hS => ?_)
      have hW := hW.keptA (sh := shS) hd (Nat.le_refl _) hq1
      have hWS := hWS1
      have hB := rc_mono hS hAB
      have hAM : ∀ q, rc_A sh H3.size q → rc_AR shS sh s.heap.size q := fun q h => Or.inr (h.elim Or.inl (fun h => Or.inr (Nat.le_trans hS.1 h)))
      refine rc_gi hS hAM (vx_runSW (As := [.ref a0, .int (Int32.ofNat L[k])]) (rest := []) ⟨hx, hb, hml, hown, hts⟩ (k_L_append l hl9 hT z a0 (Int32.ofNat L[k]) h0 H3.size _ _ _ hc) (vx_cwSW 2 hts (rc_gS tw_5_140 tw_5_141 tw_1_0 tw_5_142) rfl rfl rfl (by decide +kernel) ⟨Nat.le_of_ble_eq_true rfl, Nat.le_of_ble_eq_true rfl⟩) (rc_preSLB hW hK hE hN hXz hB [.ref a0, .int (Int32.ofNat L[k])]) rfl rfl hl.1 rfl (lv_room (Nat.le_of_ble_eq_true rfl)) dL_reads_16 ⟨by show k * 1 + 1 ≤ 9; omega, by show k * 6 + 6 ≤ 54; omega⟩) (fun H2 locs hW1 _ hq1 hS => ?_)
      have hWS := hWS.keptA (sh := sh) hd2 (Nat.le_refl _) hq1
      have hW := hW1
      have hB := rc_mono hS hAB
      refine lv_istore_n (lv' := [(3, .int w), (2, .int (Int32.ofNat k)), (0, .ref a0), (1, .ref t1)]) hx hb dL_reads_19 rfl hl (by decide) rfl (fun ls hl => ?_)
      refine lv_iinc (v := Int32.ofNat (k + 1)) (lv' := [(2, .int (Int32.ofNat (k + 1))), (3, .int w), (0, .ref a0), (1, .ref t1)]) hx hb dL_reads_20 hl (k := 1) rfl (by rw [← pq_s]; rfl) (by decide) rfl (fun ls hl => ?_)
      refine lv_goto (tgt := 2) hx hb dL_reads_23 (by decide) ?_
      refine W.widen (k := (k + 1) * 1) (n := (k + 1) * 6) (by omega) (by omega) ?_
      exact ih (k + 1) (by omega) H2 _ _ _ hm0 hW hWS hS (lv_sub hl [0, 2, 3] rfl)
  refine lv_iconst (v := 0) hx hb dL_reads_0 (by decide) ?_
  refine lv_istore_n (lv' := [(2, .int 0), (0, .ref a0), (1, .ref t1)]) hx hb dL_reads_1 rfl hl (by decide) rfl (fun ls hl => ?_)
  exact lp 8 0 (by omega) s.heap [] ls σ (by rw [List.drop_zero]; exact hm) hW hWS hS hl
