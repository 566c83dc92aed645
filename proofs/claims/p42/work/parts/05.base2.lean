/-! THE SURROUNDINGS that nobody writes: Throwable's two statics, links of nest mates, what may be cast -/
def rc_nwok : Cond → Bool
  | .declares _ => true
  | .castable _ _ => true
  | .methodLinkNest _ _ _ _ => true
  | _ => false
def rc_nw : List Cond := tables_1.filter rc_nwok
theorem rc_nw_warm {s U : State} (hW : s.WarmedH U.vm) {w : Cond} (hw : rc_nwok w = true) (h : va_Nw w s) : va_Nw w U := by
  cases w with
  | declares x => exact va_Nw.warmD hW h
  | castable C T => exact va_Nw.warmC hW h
  | methodLinkNest a i x b => exact va_Nw.warmM hW h
  | _ => cases hw
/-- the tables of digits -/
def rc_d1 (j : Nat) : Int32 := nI (48 + j % 10)
def rc_d10 (j : Nat) : Int32 := nI (48 + j / 10)
/-- the texts of the class: their lengths, letters, places -/
def rc_len : List Nat := [3, 5, 3, 0, 1, 11, 2, 1, 2, 1, 1, 1, 1]
def rc_byt : List (List Int32) := [[100, 42, 100], [100, 62, 100, 61, 110], [100, 61, 110], [], [100], [115, 98, 120, 112, 104, 109, 116, 108, 103, 99, 121], [121, 59], [115], [42, 50], [103], [112], [62], [61]]
def rc_sk (i : Nat) : Nat := [65, 67, 69, 71, 73, 43, 220, 225, 230, 236, 238, 240, 242, 244].getD i 244
def rc_tx (i : Nat) : String := ["d*d", "d>d=n", "d=n", "", "d", "sbxphmtlgcy", "y;", "s", "*2", "g", "p", ">", "=", ""].getD i ""
def rc_own (i : Nat) : String := if i < 6 then "RainCellar$Text" else "RainCellarLaw"
/-- the law's empty text is the class's own -/
def rc_ti (i : Nat) : Nat := if i = 13 then 3 else i
def rc_E (Y : rc_Y) (U : State) (H : Heap) : Prop := Y.1 ≤ H.size ∧ vx_Zq Bundle.tN "UNASSIGNED_STACK" Bundle.steD (fun q => Y.1 ≤ q) U H ∧ vx_Zq Bundle.tN "SUPPRESSED_SENTINEL" Bundle.listD (fun q => Y.1 ≤ q) U H ∧ (∀ w ∈ rc_nw, va_Nw w U) ∧ va_Z "java/lang/String" "COMPACT_STRINGS" "Z" (.int 1) (fun q => Y.1 ≤ q) U H ∧
  (∃ t, va_Z "java/lang/Integer" "DigitOnes" "[B" (.ref t) (fun q => Y.1 ≤ q) U H ∧ va_T .byte t 100 (fun j => .int (rc_d1 j)) (fun q => Y.1 ≤ q) U H) ∧
  (∃ t, va_Z "java/lang/Integer" "DigitTens" "[B" (.ref t) (fun q => Y.1 ≤ q) U H ∧ va_T .byte t 100 (fun j => .int (rc_d10 j)) (fun q => Y.1 ≤ q) U H) ∧
  va_Zq "jdk/internal/util/Preconditions" "SIOOBE_FORMATTER" "Ljava/util/function/BiFunction;" (fun q => Y.1 ≤ q) U H ∧
  vk_S 13 rc_len rc_byt Y.2.2.2 (fun i => Y.2.2.2 (100 + i)) (fun q => Y.1 ≤ q) U H ∧ ∀ i, i < 14 → vk_R (rc_own i) (rc_sk i) (rc_tx i) (Y.2.2.2 (rc_ti i)) U
theorem rc_E_nw {Y : rc_Y} {U : State} {H : Heap} (h : rc_E Y U H) : ∀ w ∈ rc_nw, va_Nw w U := h.2.2.2.1
theorem rc_E_cs {Y : rc_Y} {U : State} {H : Heap} (h : rc_E Y U H) : va_Z "java/lang/String" "COMPACT_STRINGS" "Z" (.int 1) (fun q => Y.1 ≤ q) U H := h.2.2.2.2.1
theorem rc_E_d1 {Y : rc_Y} {U : State} {H : Heap} (h : rc_E Y U H) : ∃ t, va_Z "java/lang/Integer" "DigitOnes" "[B" (.ref t) (fun q => Y.1 ≤ q) U H ∧ va_T .byte t 100 (fun j => .int (rc_d1 j)) (fun q => Y.1 ≤ q) U H := h.2.2.2.2.2.1
theorem rc_E_d10 {Y : rc_Y} {U : State} {H : Heap} (h : rc_E Y U H) : ∃ t, va_Z "java/lang/Integer" "DigitTens" "[B" (.ref t) (fun q => Y.1 ≤ q) U H ∧ va_T .byte t 100 (fun j => .int (rc_d10 j)) (fun q => Y.1 ≤ q) U H := h.2.2.2.2.2.2.1
theorem rc_E_sf {Y : rc_Y} {U : State} {H : Heap} (h : rc_E Y U H) : va_Zq "jdk/internal/util/Preconditions" "SIOOBE_FORMATTER" "Ljava/util/function/BiFunction;" (fun q => Y.1 ≤ q) U H := h.2.2.2.2.2.2.2.1
theorem rc_E_S {Y : rc_Y} {U : State} {H : Heap} (h : rc_E Y U H) : vk_S 13 rc_len rc_byt Y.2.2.2 (fun i => Y.2.2.2 (100 + i)) (fun q => Y.1 ≤ q) U H := h.2.2.2.2.2.2.2.2.1
theorem rc_E_R {Y : rc_Y} {U : State} {H : Heap} (h : rc_E Y U H) : ∀ i, i < 14 → vk_R (rc_own i) (rc_sk i) (rc_tx i) (Y.2.2.2 (rc_ti i)) U := h.2.2.2.2.2.2.2.2.2
/-- in another heap that keeps what lies below the base -/
theorem rc_E.heap {Y : rc_Y} {s U : State} {H H1 : Heap} (h : rc_E Y s H) (hal : s.vm.Alike U.vm) (hn : ∀ w ∈ rc_nw, va_Nw w U) (hr : ∀ i, i < 14 → vk_R (rc_own i) (rc_sk i) (rc_tx i) (Y.2.2.2 (rc_ti i)) U) (hz : H.size ≤ H1.size) (hq : ∀ a : Nat, a < H.size → ¬ Y.1 ≤ a → H1[a]? = H[a]?) : rc_E Y U H1 := by
  obtain ⟨h1, h2, h3, h4, h5, ⟨t6, h6, h6'⟩, ⟨t7, h7, h7'⟩, h8, h9, h10⟩ := h
  exact ⟨Nat.le_trans h1 hz, (vx_Zq.moved hal h2).kept hq, (vx_Zq.moved hal h3).kept hq, hn, (va_Z.moved hal h5).kept hq, ⟨t6, (va_Z.moved hal h6).kept hq, (va_T.moved hal h6').kept hq⟩, ⟨t7, (va_Z.moved hal h7).kept hq, (va_T.moved hal h7').kept hq⟩, (va_Zq.moved hal h8).kept hq, (vk_S.moved hal h9).kept hq, hr⟩
theorem rc_E.go {Y : rc_Y} {s U : State} {H H1 : Heap} (h : rc_E Y s H) (hW : s.WarmedH U.vm) (hz : H.size ≤ H1.size) (hq : ∀ a : Nat, a < H.size → ¬ Y.1 ≤ a → H1[a]? = H[a]?) : rc_E Y U H1 :=
  h.heap hW.alike (fun w hw => rc_nw_warm hW (List.mem_filter.mp hw).2 (rc_E_nw h w hw)) (fun i hi => vk_R.warm hW (rc_E_R h i hi)) hz hq
def rc_B (Y : rc_Y) (sh : Nat → Nat) (rf : rc_F) (σ : rc_S) (U : State) : Prop := rc_W Y sh rf σ U.heap ∧ va_K Y.2.1 vwCl (rc_tys Y.2.2.1) U ∧ rc_E Y U U.heap
/-- a method's start -/
def rc_P (Y : rc_Y) (sh : Nat → Nat) (rf : rc_F) (σ : rc_S) (sz : Nat) (av : List Value) : Array Value → State → Prop := va_Pc av (fun U => U.heap.size = sz ∧ rc_B Y sh rf σ U)
theorem rc_blind {Y : rc_Y} {sh : Nat → Nat} {rf : rc_F} {σ : rc_S} {sz : Nat} {av : List Value} : FrameBlind (rc_P Y sh rf σ sz av) := by
  intro a U g mk q
  obtain ⟨q0, q1, qW, qK, qE⟩ := q
  refine ⟨q0, q1, qW, va_K.moved (u := U) (U := U.calling g mk a) (Vm.Alike.refl U.vm) qK, rc_E.heap (s := U) (U := U.calling g mk a) (H := U.heap) qE (Vm.Alike.refl U.vm) (fun w hw => ?_) (fun i hi => vk_R.same (u := U) rfl (rc_E_R qE i hi)) (Nat.le_refl _) (fun _ _ _ => rfl)⟩
  have hwk := (List.mem_filter.mp hw).2
  refine va_Nw.same (u := U) ?_ rfl (rc_E_nw qE w hw)
  cases w <;> first | rfl | cases hwk
section RCR
variable {p : Program} {l : Launch} {e : Env} {R : Room} {s : State} {m : MethodId} {args : Array Value} {below : List Frame} {meth : Method} {c : Code} {H : Heap} {locs : List Loc} {cells slots : Nat} {Q : State → Prop}
variable {cc : ByteArray} {pc : Nat} {ls : Array Slot} {rest : List Value} {Y : rc_Y} {sh : Nat → Nat} {rf : rc_F} {σ σ' σ1 : rc_S} {a sz : Nat}
theorem rc_below (hT : rc_T Y sh rf) (hE : rc_E Y s s.heap) (hS : va_S (rc_A sh s.heap.size) s.heap H locs) : ∀ q : Nat, q < s.heap.size → ¬ Y.1 ≤ q → H[q]? = s.heap[q]? := fun q h1 h2 => hS.2.1 q h1 (fun z => by
  rcases z with z | z
  · exact h2 (rc_t_b hT z)
  · omega)
theorem rc_pre (hT : rc_T Y sh rf) (hW : rc_W Y sh rf σ H) (hK : va_K Y.2.1 vwCl (rc_tys Y.2.2.1) s) (hE : rc_E Y s s.heap) (hS : va_S (rc_A sh s.heap.size) s.heap H locs) (av : List Value) (U : State) (hU : U.heap = H) (hwm : s.WarmedH U.vm) : rc_P Y sh rf σ H.size av av.toArray U :=
  ⟨rfl, by rw [hU], by rw [hU]; exact hW, va_K.moved hwm.alike hK, by rw [hU]; exact hE.go hwm hS.1 (rc_below hT hE hS)⟩
theorem rc_preV (hT : rc_T Y sh rf) (hW : rc_W Y sh rf σ H) (hK : va_K Y.2.1 vwCl (rc_tys Y.2.2.1) s) (hE : rc_E Y s s.heap) (hS : va_S (rc_A sh s.heap.size) s.heap H locs) {b t ci : Nat} (hb : sh b = t) (h0 : t ≠ 0) {fs : List Value} (he : rc_C Y.2.2.1 t (σ b) (rf b) = .inr (ci, fs)) {q : vw_C} (hc : vwCl[ci]? = some q) (As : List Value) : PreV s H q.1 b (rc_P Y sh rf σ H.size (.ref b :: As)) As :=
  ⟨rc_blind, va_recv hK (rc_one hW hb h0 he) hc (q0 := 0) rfl, fun U hU hwm => rc_pre hT hW hK hE hS _ U hU hwm⟩
theorem rc_preS (hT : rc_T Y sh rf) (hW : rc_W Y sh rf σ H) (hK : va_K Y.2.1 vwCl (rc_tys Y.2.2.1) s) (hE : rc_E Y s s.heap) (hS : va_S (rc_A sh s.heap.size) s.heap H locs) (As : List Value) : PreS s H (rc_P Y sh rf σ H.size As) As :=
  ⟨rc_blind, fun U hU hwm => rc_pre hT hW hK hE hS _ U hU hwm⟩
/-! fields -/
theorem rc_get (hexec : p.tables.exec = Jvm.exec) (hb : c.code = cc) {own ref C : String} {T : u_T} {N ci index : Nat} {Ts : List Cond} (hts : ∀ w ∈ Ts, w.before args s = true) (hin : ∀ w ∈ u_ws C T N, w ∈ Ts) (hown : s.vm.findClass own = some m.cls) (hK : va_K Y.2.1 vwCl (rc_tys Y.2.2.1) s) (hW : rc_W Y sh rf σ H) {t : Nat} (ht : sh a = t) (h0 : t ≠ 0) {fs : List Value} (he : rc_C Y.2.2.1 t (σ a) (rf a) = .inr (ci, fs)) (hc : vwCl[ci]? = some (C, T, N)) (k : Nat) (hk : k < N) (hlink : (Cond.fieldLink own index ref (T k).2.1 (T k).2.2.1).before args s = true) (hsame : ∀ x, s.fieldFound? (T k).1 (T k).2.1 (T k).2.2.1 = some x → s.fieldFound? ref (T k).2.1 (T k).2.2.1 = some x) {v : Value} (hv : fs[k]? = some v) (hdg : decode cc pc = .ok (.getfield index, 3))
    (kk : W p l e R s m args below meth c H locs cells slots Q (F0 m (pc + 3) ls (v :: rest))) : W p l e R s m args below meth c H locs cells slots Q (F0 m pc ls (.ref a :: rest)) :=
  va_get hexec hb hts hin hown hK (rc_one hW ht h0 he) 0 rfl hc k hk hlink hsame hv hdg kk
theorem rc_put (hexec : p.tables.exec = Jvm.exec) (hb : c.code = cc) {own ref C : String} {T : u_T} {N ci index : Nat} {Ts : List Cond} (hts : ∀ w ∈ Ts, w.before args s = true) (hin : ∀ w ∈ u_ws C T N, w ∈ Ts) (ty0 : Nat → FieldType) (hty : ∀ k, k < N → parseFieldDescriptor (T k).2.2.1 = some (ty0 k)) (hnm : ∀ a, a < N → ∀ b, b < N → a ≠ b → (T a).2.1 ≠ (T b).2.1) (hown : s.vm.findClass own = some m.cls) (hK : va_K Y.2.1 vwCl (rc_tys Y.2.2.1) s) (hW : rc_W Y sh rf σ H) {sz : Nat} {H0 : Heap} (hS0 : va_S (rc_A sh sz) H0 H locs) {t : Nat} (ht : sh a = t) (h0 : t ≠ 0) {fs : List Value} (he0 : rc_C Y.2.2.1 t (σ a) (rf a) = .inr (ci, fs)) (hc : vwCl[ci]? = some (C, T, N)) (k : Nat) (hk : k < N) (hlink : (Cond.fieldLink own index ref (T k).2.1 (T k).2.2.1).before args s = true) (hsame : ∀ x, s.fieldFound? (T k).1 (T k).2.1 (T k).2.2.1 = some x → s.fieldFound? ref (T k).2.1 (T k).2.2.1 = some x) (hfin : (T k).2.2.2 = false) {ty : FieldType} {x : Int32} (hd : parseFieldDescriptor (T k).2.2.1 = some ty) (hn : narrow ty (.int x) = .int x) (hfit : fits ty (.int x) = true) (hl : k < fs.length)
    (hnew : rc_C Y.2.2.1 t (upd (σ a) k x) (rf a) = .inr (ci, fs.set k (.int x))) (hdg : decode cc pc = .ok (.putfield index, 3))
    (kk : ∀ (σ1 : rc_S) (H1 : Heap) (locs1 : List Loc), σ1 = rc_up σ a k x → rc_W Y sh rf σ1 H1 → va_S (rc_A sh sz) H0 H1 locs1 → W p l e R s m args below meth c H1 locs1 cells slots Q (F0 m (pc + 3) ls rest)) : W p l e R s m args below meth c H locs cells slots Q (F0 m pc ls (.int x :: .ref a :: rest)) := by
  have hap := va_apart (own := own) hts hin ty0 hty hnm hK hc
  obtain ⟨r, h1, cell, q1, q2, q3, q4⟩ := rc_one hW ht h0 he0 0 _ rfl
  have hr : r = (C, T, N) := Option.some.inj (h1.symm.trans hc)
  subst hr
  obtain ⟨hS, hfc, kC, hkC, hkind⟩ := hK.1 ci _ hc
  obtain ⟨cf, kf, fi, f, hi, hsl⟩ := hS k hk
  have hlay := hts _ (hin _ (u_in_lay hk))
  unfold u_lay at hlay
  rw [if_neg (by rw [hfin]; decide)] at hlay
  have hst := (u_facts hfc hkC (u_lays hts hin hk) hi).1
  have h6 := u_store hfc hkC hkind hlay hi hd hn hfit
  refine W.putK hexec hb (f := f) ⟨hown, hlink, ⟨_, _, _, hsame _ hi⟩, hst⟩ (by rw [q2]; exact h6) q1 q3 (by rw [hsl]; exact k2_hasslot (q4 k hk)) rfl rfl hdg fun H' e1 e2 e3 => ?_
  rw [hsl] at e1 ⊢
  refine kk (rc_row σ a (upd (σ a) k x)) H' _ rfl (rc_wr hW ht ?_ e3) (hS0.put e2 e3 (Or.inl (by rw [ht]; exact h0)))
  rw [hnew]
  exact ⟨_, hc, t_OB.to (V := updV (vp_V fs) k (.int x)) ⟨_, e1, q2, q3, t_set q4 hap hk (.int x)⟩ (fun j _ => vp_updV_set hl (.int x) j)⟩
/-! arrays -/
theorem rc_iald (hexec : p.tables.exec = Jvm.exec) (hb : c.code = cc) (hK : va_K Y.2.1 vwCl (rc_tys Y.2.2.1) s) (hW : rc_W Y sh rf σ H) {t : Nat} (ht : sh a = t) (h0 : t ≠ 0) {n : Nat} (he : rc_C Y.2.2.1 t (σ a) (rf a) = .inl (Y.2.2.1 0, n, .inl (σ a))) {i : Int32} (hin : vp_in i n) (hdg : decode cc pc = .ok (.iaload, 1))
    (kk : W p l e R s m args below meth c H locs cells slots Q (F0 m (pc + 1) ls (.int (σ a i.toNatClampNeg) :: rest))) : W p l e R s m args below meth c H locs cells slots Q (F0 m pc ls (.int i :: .ref a :: rest)) :=
  va_iald hexec hb hK (rc_one hW ht h0 he) 0 0 rfl rfl hin hdg kk
theorem rc_cald (hexec : p.tables.exec = Jvm.exec) (hb : c.code = cc) (hK : va_K Y.2.1 vwCl (rc_tys Y.2.2.1) s) (hW : rc_W Y sh rf σ H) {t : Nat} (ht : sh a = t) (h0 : t ≠ 0) {n : Nat} (he : rc_C Y.2.2.1 t (σ a) (rf a) = .inl (Y.2.2.1 1, n, .inl (σ a))) {i : Int32} (hin : vp_in i n) (hdg : decode cc pc = .ok (.caload, 1))
    (kk : W p l e R s m args below meth c H locs cells slots Q (F0 m (pc + 1) ls (.int (σ a i.toNatClampNeg) :: rest))) : W p l e R s m args below meth c H locs cells slots Q (F0 m pc ls (.int i :: .ref a :: rest)) :=
  va_cald hexec hb hK (rc_one hW ht h0 he) 0 1 rfl rfl hin hdg kk
theorem rc_zald (hexec : p.tables.exec = Jvm.exec) (hb : c.code = cc) (hK : va_K Y.2.1 vwCl (rc_tys Y.2.2.1) s) (hW : rc_W Y sh rf σ H) {t : Nat} (ht : sh a = t) (h0 : t ≠ 0) {n : Nat} (he : rc_C Y.2.2.1 t (σ a) (rf a) = .inl (Y.2.2.1 2, n, .inl (σ a))) {i : Int32} (hin : vp_in i n) (hdg : decode cc pc = .ok (.baload, 1))
    (kk : W p l e R s m args below meth c H locs cells slots Q (F0 m (pc + 1) ls (.int (σ a i.toNatClampNeg) :: rest))) : W p l e R s m args below meth c H locs cells slots Q (F0 m pc ls (.int i :: .ref a :: rest)) :=
  va_zald hexec hb hK (rc_one hW ht h0 he) 0 2 rfl rfl hin hdg kk
theorem rc_bald (hexec : p.tables.exec = Jvm.exec) (hb : c.code = cc) (hK : va_K Y.2.1 vwCl (rc_tys Y.2.2.1) s) (hW : rc_W Y sh rf σ H) {t : Nat} (ht : sh a = t) (h0 : t ≠ 0) {n : Nat} (he : rc_C Y.2.2.1 t (σ a) (rf a) = .inl (Y.2.2.1 3, n, .inl (σ a))) {i : Int32} (hin : vp_in i n) (hdg : decode cc pc = .ok (.baload, 1))
    (kk : W p l e R s m args below meth c H locs cells slots Q (F0 m (pc + 1) ls (.int (σ a i.toNatClampNeg) :: rest))) : W p l e R s m args below meth c H locs cells slots Q (F0 m pc ls (.int i :: .ref a :: rest)) :=
  va_bald hexec hb hK (rc_one hW ht h0 he) 0 3 rfl rfl hin hdg kk
theorem rc_aald (hexec : p.tables.exec = Jvm.exec) (hb : c.code = cc) (hK : va_K Y.2.1 vwCl (rc_tys Y.2.2.1) s) (hW : rc_W Y sh rf σ H) {t : Nat} (ht : sh a = t) (h0 : t ≠ 0) {n : Nat} {cA : ClassId} {C : String} (he : rc_C Y.2.2.1 t (σ a) (rf a) = .inl (cA, n, .inr (.inr (.inr (.inr (fun j => some (rf a j))))))) (t0 : Nat) (hty : (rc_tys Y.2.2.1)[t0]? = some (cA, .object C)) {i : Int32} (hin : vp_in i n) (hdg : decode cc pc = .ok (.aaload, 1))
    (kk : W p l e R s m args below meth c H locs cells slots Q (F0 m (pc + 1) ls (.ref (rf a i.toNatClampNeg) :: rest))) : W p l e R s m args below meth c H locs cells slots Q (F0 m pc ls (.int i :: .ref a :: rest)) :=
  va_aldq hexec hb hK (rc_one hW ht h0 he) 0 t0 rfl hty hin hdg kk
theorem rc_alen (hexec : p.tables.exec = Jvm.exec) (hb : c.code = cc) (hK : va_K Y.2.1 vwCl (rc_tys Y.2.2.1) s) (hW : rc_W Y sh rf σ H) {t : Nat} (ht : sh a = t) (h0 : t ≠ 0) {cA : ClassId} {x : vp_A} (he : rc_C Y.2.2.1 t (σ a) (rf a) = .inl (cA, x)) (t0 : Nat) {ty : FieldType} (hty : (rc_tys Y.2.2.1)[t0]? = some (cA, ty)) {v : Int32} (hv : Int32.ofNat x.1 = v) (hdg : decode cc pc = .ok (.arraylength, 1))
    (kk : W p l e R s m args below meth c H locs cells slots Q (F0 m (pc + 1) ls (.int v :: rest))) : W p l e R s m args below meth c H locs cells slots Q (F0 m pc ls (.ref a :: rest)) :=
  va_alen hexec hb hK (rc_one hW ht h0 he) 0 t0 rfl hty hv hdg kk
theorem rc_iast (hexec : p.tables.exec = Jvm.exec) (hb : c.code = cc) (hK : va_K Y.2.1 vwCl (rc_tys Y.2.2.1) s) (hW : rc_W Y sh rf σ H) {sz : Nat} {H0 : Heap} (hS : va_S (rc_A sh sz) H0 H locs) {t : Nat} (ht : sh a = t) (h0 : t ≠ 0) {n : Nat} (he0 : ∀ r : Nat → Int32, rc_C Y.2.2.1 t r (rf a) = .inl (Y.2.2.1 0, n, .inl r)) {i x : Int32} (hin : vp_in i n) (hdg : decode cc pc = .ok (.iastore, 1))
    (kk : ∀ (σ1 : rc_S) (H1 : Heap) (locs1 : List Loc), σ1 = rc_up σ a i.toNatClampNeg x → rc_W Y sh rf σ1 H1 → va_S (rc_A sh sz) H0 H1 locs1 → W p l e R s m args below meth c H1 locs1 cells slots Q (F0 m (pc + 1) ls rest)) : W p l e R s m args below meth c H locs cells slots Q (F0 m pc ls (.int x :: .int i :: .ref a :: rest)) := by
  have hP := rc_one hW ht h0 (he0 (σ a)) 0 _ rfl
  refine W.iast hexec hb hP ((hK.2 0 _ rfl).1 n (fun j => .int (σ a j))) (fun q => by cases q) (by show ¬ (i < 0 ∨ (arrV _ _ _).slots.size ≤ _); rw [arrV_size]; exact hin) rfl rfl hdg fun H1 e z oq => ?_
  refine kk (rc_row σ a (upd (σ a) i.toNatClampNeg x)) H1 _ rfl (rc_wr hW ht ?_ oq) (hS.put z oq (Or.inl (by rw [ht]; exact h0)))
  rw [he0]
  show H1[a]? = some (vp_cell _ _)
  rw [e]
  rw [vp_cell_i, vp_cell_i, arrV_store]
  congr 2
  funext q
  by_cases hq : q = i.toNatClampNeg
  · subst hq
    simp [updV, upd]
  · simp [updV, upd, hq]
theorem rc_cast (hexec : p.tables.exec = Jvm.exec) (hb : c.code = cc) (hK : va_K Y.2.1 vwCl (rc_tys Y.2.2.1) s) (hW : rc_W Y sh rf σ H) {sz : Nat} {H0 : Heap} (hS : va_S (rc_A sh sz) H0 H locs) {t : Nat} (ht : sh a = t) (h0 : t ≠ 0) {n : Nat} (he0 : ∀ r : Nat → Int32, rc_C Y.2.2.1 t r (rf a) = .inl (Y.2.2.1 1, n, .inl r)) {i x : Int32} (hin : vp_in i n) (hdg : decode cc pc = .ok (.castore, 1))
    (kk : ∀ (σ1 : rc_S) (H1 : Heap) (locs1 : List Loc), σ1 = rc_up σ a i.toNatClampNeg (vp_nar .char x) → rc_W Y sh rf σ1 H1 → va_S (rc_A sh sz) H0 H1 locs1 → W p l e R s m args below meth c H1 locs1 cells slots Q (F0 m (pc + 1) ls rest)) : W p l e R s m args below meth c H locs cells slots Q (F0 m pc ls (.int x :: .int i :: .ref a :: rest)) := by
  have hP := rc_one hW ht h0 (he0 (σ a)) 0 _ rfl
  refine W.cast hexec hb hP ((hK.2 1 _ rfl).1 n (fun j => .int (σ a j))) (fun q => by cases q) (by show ¬ (i < 0 ∨ (arrV _ _ _).slots.size ≤ _); rw [arrV_size]; exact hin) rfl rfl hdg fun H1 e z oq => ?_
  refine kk (rc_row σ a (upd (σ a) i.toNatClampNeg (vp_nar .char x))) H1 _ rfl (rc_wr hW ht ?_ oq) (hS.put z oq (Or.inl (by rw [ht]; exact h0)))
  rw [he0]
  show H1[a]? = some (vp_cell _ _)
  rw [e]
  rw [vp_cell_i, vp_cell_i, arrV_store]
  congr 2
  funext q
  by_cases hq : q = i.toNatClampNeg
  · subst hq
    simp [updV, upd, vp_nar]
    try rfl
  · simp [updV, upd, hq]
theorem rc_zast (hexec : p.tables.exec = Jvm.exec) (hb : c.code = cc) (hK : va_K Y.2.1 vwCl (rc_tys Y.2.2.1) s) (hW : rc_W Y sh rf σ H) {sz : Nat} {H0 : Heap} (hS : va_S (rc_A sh sz) H0 H locs) {t : Nat} (ht : sh a = t) (h0 : t ≠ 0) {n : Nat} (he0 : ∀ r : Nat → Int32, rc_C Y.2.2.1 t r (rf a) = .inl (Y.2.2.1 2, n, .inl r)) {i x : Int32} (hin : vp_in i n) (hdg : decode cc pc = .ok (.bastore, 1))
    (kk : ∀ (σ1 : rc_S) (H1 : Heap) (locs1 : List Loc), σ1 = rc_up σ a i.toNatClampNeg (vp_nar .boolean x) → rc_W Y sh rf σ1 H1 → va_S (rc_A sh sz) H0 H1 locs1 → W p l e R s m args below meth c H1 locs1 cells slots Q (F0 m (pc + 1) ls rest)) : W p l e R s m args below meth c H locs cells slots Q (F0 m pc ls (.int x :: .int i :: .ref a :: rest)) := by
  have hP := rc_one hW ht h0 (he0 (σ a)) 0 _ rfl
  refine W.zast hexec hb hP ((hK.2 2 _ rfl).1 n (fun j => .int (σ a j))) (fun q => by cases q) (by show ¬ (i < 0 ∨ (arrV _ _ _).slots.size ≤ _); rw [arrV_size]; exact hin) rfl rfl hdg fun H1 e z oq => ?_
  refine kk (rc_row σ a (upd (σ a) i.toNatClampNeg (vp_nar .boolean x))) H1 _ rfl (rc_wr hW ht ?_ oq) (hS.put z oq (Or.inl (by rw [ht]; exact h0)))
  rw [he0]
  show H1[a]? = some (vp_cell _ _)
  rw [e]
  rw [vp_cell_i, vp_cell_i, arrV_store]
  congr 2
  funext q
  by_cases hq : q = i.toNatClampNeg
  · subst hq
    simp [updV, upd, vp_nar]
    try rfl
  · simp [updV, upd, hq]
theorem rc_bast (hexec : p.tables.exec = Jvm.exec) (hb : c.code = cc) (hK : va_K Y.2.1 vwCl (rc_tys Y.2.2.1) s) (hW : rc_W Y sh rf σ H) {sz : Nat} {H0 : Heap} (hS : va_S (rc_A sh sz) H0 H locs) {t : Nat} (ht : sh a = t) (h0 : t ≠ 0) {n : Nat} (he0 : ∀ r : Nat → Int32, rc_C Y.2.2.1 t r (rf a) = .inl (Y.2.2.1 3, n, .inl r)) {i x : Int32} (hin : vp_in i n) (hdg : decode cc pc = .ok (.bastore, 1))
    (kk : ∀ (σ1 : rc_S) (H1 : Heap) (locs1 : List Loc), σ1 = rc_up σ a i.toNatClampNeg (vp_nar .byte x) → rc_W Y sh rf σ1 H1 → va_S (rc_A sh sz) H0 H1 locs1 → W p l e R s m args below meth c H1 locs1 cells slots Q (F0 m (pc + 1) ls rest)) : W p l e R s m args below meth c H locs cells slots Q (F0 m pc ls (.int x :: .int i :: .ref a :: rest)) := by
  have hP := rc_one hW ht h0 (he0 (σ a)) 0 _ rfl
  refine W.bast hexec hb hP ((hK.2 3 _ rfl).1 n (fun j => .int (σ a j))) (fun q => by cases q) (by show ¬ (i < 0 ∨ (arrV _ _ _).slots.size ≤ _); rw [arrV_size]; exact hin) rfl rfl hdg fun H1 e z oq => ?_
  refine kk (rc_row σ a (upd (σ a) i.toNatClampNeg (vp_nar .byte x))) H1 _ rfl (rc_wr hW ht ?_ oq) (hS.put z oq (Or.inl (by rw [ht]; exact h0)))
  rw [he0]
  show H1[a]? = some (vp_cell _ _)
  rw [e]
  rw [vp_cell_i, vp_cell_i, arrV_store]
  congr 2
  funext q
  by_cases hq : q = i.toNatClampNeg
  · subst hq
    simp [updV, upd, vp_nar]
    try rfl
  · simp [updV, upd, hq]
/-! ends -/
theorem rc_eiret {v r : Int32} {mc ms : Nat} (hx : p.tables.exec = Jvm.exec) (hb : c.code = cc) (hr : meth.sig.returnType = some .int) (hlocks : meth.locks = false) (hW : rc_W Y sh rf σ H) (hS : va_S (rc_A sh s.heap.size) s.heap H locs) (hc : cells ≤ mc) (hs : slots ≤ ms) (hm : some (v, σ) = some (r, σ')) (hdg : decode cc pc = .ok (.ireturn, 1)) :
    W p l e R s m args below meth c H locs cells slots (MQ below (va_Qi (fun (r' : Int32) (_ : Unit) => r' = r) (fun _ t => rc_W Y sh rf σ' t.heap) (rc_A sh s.heap.size)) args s mc ms (rc_A sh s.heap.size)) (F0 m pc ls [.int v]) := by
  cases hm
  refine W.widen hc hs ?_
  exact W.iret (v := v) hx hb hr (fun t ht _ => ⟨⟨v, (), rfl, rfl, show rc_W Y sh rf σ t.heap by rw [ht]; exact hW⟩, hS.F ht⟩) hS.2.2 hdg hlocks
theorem rc_ezret {ty : FieldType} {v r : Int32} {mc ms : Nat} (hx : p.tables.exec = Jvm.exec) (hb : c.code = cc) (hr : meth.sig.returnType = some ty) (hlocks : meth.locks = false) (hW : rc_W Y sh rf σ H) (hS : va_S (rc_A sh s.heap.size) s.heap H locs) (hc : cells ≤ mc) (hs : slots ≤ ms) (hn : narrow ty (.int v) = .int v) (hm : some (v, σ) = some (r, σ')) (hdg : decode cc pc = .ok (.ireturn, 1)) :
    W p l e R s m args below meth c H locs cells slots (MQ below (va_Qi (fun (r' : Int32) (_ : Unit) => r' = r) (fun _ t => rc_W Y sh rf σ' t.heap) (rc_A sh s.heap.size)) args s mc ms (rc_A sh s.heap.size)) (F0 m pc ls [.int v]) := by
  cases hm
  refine W.widen hc hs ?_
  exact W.zret (v := v) hx hb hr hn (fun t ht _ => ⟨⟨v, (), rfl, rfl, show rc_W Y sh rf σ t.heap by rw [ht]; exact hW⟩, hS.F ht⟩) hS.2.2 hdg hlocks
theorem rc_evret {u : Unit} {mc ms : Nat} (hx : p.tables.exec = Jvm.exec) (hb : c.code = cc) (hr : meth.sig.returnType = none) (hlocks : meth.locks = false) (hW : rc_W Y sh rf σ H) (hS : va_S (rc_A sh s.heap.size) s.heap H locs) (hc : cells ≤ mc) (hs : slots ≤ ms) (hm : some ((), σ) = some (u, σ')) (hdg : decode cc pc = .ok (.return_, 1)) :
    W p l e R s m args below meth c H locs cells slots (MQ below (va_Qv (fun (_ : Unit) => True) (fun _ t => rc_W Y sh rf σ' t.heap) (rc_A sh s.heap.size)) args s mc ms (rc_A sh s.heap.size)) (F0 m pc ls []) := by
  cases hm
  refine W.widen hc hs ?_
  exact W.vret hx hb hr (fun t ht _ => ⟨⟨(), rfl, trivial, show rc_W Y sh rf σ t.heap by rw [ht]; exact hW⟩, hS.F ht⟩) hS.2.2 hdg hlocks
theorem rc_earet {C : String} {v r tg : Nat} {mc ms : Nat} (hx : p.tables.exec = Jvm.exec) (hb : c.code = cc) (hr : meth.sig.returnType = some (.object C)) (hlocks : meth.locks = false) (hW : rc_W Y sh rf σ H) (hS : va_S (rc_A sh s.heap.size) s.heap H locs) (hc : cells ≤ mc) (hs : slots ≤ ms) (htg : sh v = tg) (hm : some (v, σ) = some (r, σ')) (hdg : decode cc pc = .ok (.areturn, 1)) :
    W p l e R s m args below meth c H locs cells slots (MQ below (va_Qr (fun (_ : Unit) => True) (fun _ a t => (a = r ∧ sh a = tg) ∧ rc_W Y sh rf σ' t.heap) (rc_A sh s.heap.size)) args s mc ms (rc_A sh s.heap.size)) (F0 m pc ls [.ref v]) := by
  cases hm
  refine W.widen hc hs ?_
  exact W.aret (v := .ref v) hx hb hr (Or.inl ⟨_, rfl⟩) (Or.inr ⟨_, rfl⟩) (fun t ht _ => ⟨⟨(), v, rfl, trivial, ⟨rfl, htg⟩, show rc_W Y sh rf σ t.heap by rw [ht]; exact hW⟩, hS.F ht⟩) hS.2.2 hdg hlocks
/-! behind a call -/
theorem rc_Ain {sh : Nat → Nat} {s : State} {H : Heap} : ∀ q, q < H.size → rc_A sh H.size q → rc_A sh s.heap.size q := fun q h1 h2 => by
  rcases h2 with h2 | h2
  · exact Or.inl h2
  · exact absurd h2 (Nat.not_le.mpr h1)
theorem rc_Afr {sh : Nat → Nat} {s : State} {H : Heap} (hS : va_S (rc_A sh s.heap.size) s.heap H locs) : ∀ q, rc_A sh H.size q → rc_A sh s.heap.size q := fun q h2 => by
  rcases h2 with h2 | h2
  · exact Or.inl h2
  · exact Or.inr (Nat.le_trans hS.1 h2)
theorem rc_ci {mc ms : Nat} {st0 : List Value} {av : Array Value} {v : Int32} (hS : va_S (rc_A sh s.heap.size) s.heap H locs)
    (hr : va_Run p l e R s m args below meth c H locs cells slots mc ms (F0 m pc ls st0) rest (va_Qi (fun (r' : Int32) (_ : Unit) => r' = v) (fun _ t => rc_W Y sh rf σ1 t.heap) (rc_A sh H.size) av) (rc_A sh H.size))
    (kk : ∀ (H1 : Heap) (locs1 : List Loc), rc_W Y sh rf σ1 H1 → va_S (rc_A sh s.heap.size) s.heap H1 locs1 → W p l e R s m args below meth c H1 locs1 (cells + mc) (slots + ms) Q (F0 m (pc + 3) ls (.int v :: rest))) : W p l e R s m args below meth c H locs cells slots Q (F0 m pc ls st0) :=
  va_calli hr hS rc_Ain (rc_Afr hS) (fun r u t H1 locs1 ht _ hp hB _ _ hS1 => by
    subst hp
    exact kk H1 locs1 (by rw [← ht]; exact hB) hS1)
theorem rc_cv {mc ms : Nat} {st0 : List Value} {av : Array Value} (hS : va_S (rc_A sh s.heap.size) s.heap H locs)
    (hr : va_Run p l e R s m args below meth c H locs cells slots mc ms (F0 m pc ls st0) rest (va_Qv (fun (_ : Unit) => True) (fun _ t => rc_W Y sh rf σ1 t.heap) (rc_A sh H.size) av) (rc_A sh H.size))
    (kk : ∀ (H1 : Heap) (locs1 : List Loc), rc_W Y sh rf σ1 H1 → va_S (rc_A sh s.heap.size) s.heap H1 locs1 → W p l e R s m args below meth c H1 locs1 (cells + mc) (slots + ms) Q (F0 m (pc + 3) ls rest)) : W p l e R s m args below meth c H locs cells slots Q (F0 m pc ls st0) :=
  va_callv hr hS rc_Ain (rc_Afr hS) (fun u t H1 locs1 ht _ _ hB _ _ hS1 => kk H1 locs1 (by rw [← ht]; exact hB) hS1)
theorem rc_cr {mc ms tg : Nat} {st0 : List Value} {av : Array Value} {v : Nat} (hS : va_S (rc_A sh s.heap.size) s.heap H locs)
    (hr : va_Run p l e R s m args below meth c H locs cells slots mc ms (F0 m pc ls st0) rest (va_Qr (fun (_ : Unit) => True) (fun _ a t => (a = v ∧ sh a = tg) ∧ rc_W Y sh rf σ1 t.heap) (rc_A sh H.size) av) (rc_A sh H.size))
    (kk : ∀ (H1 : Heap) (locs1 : List Loc), sh v = tg → rc_W Y sh rf σ1 H1 → va_S (rc_A sh s.heap.size) s.heap H1 locs1 → W p l e R s m args below meth c H1 locs1 (cells + mc) (slots + ms) Q (F0 m (pc + 3) ls (.ref v :: rest))) : W p l e R s m args below meth c H locs cells slots Q (F0 m pc ls st0) :=
  va_callr hr hS rc_Ain (rc_Afr hS) (fun u ra t H1 locs1 ht _ _ hB _ _ hS1 => by
    obtain ⟨⟨he, htg⟩, hB⟩ := hB
    subst he
    exact kk H1 locs1 htg (by rw [← ht]; exact hB) hS1)
end RCR
