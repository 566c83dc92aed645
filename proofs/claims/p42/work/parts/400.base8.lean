/-! THE LAW'S METHODS: beside our world stands the script; where it is asked for, the row of sums too -/
def rc_N (U : State) : Prop := va_Nc "java/lang/IllegalArgumentException" "java/lang/IndexOutOfBoundsException" U ∧ va_Nc "java/util/NoSuchElementException" "java/lang/IndexOutOfBoundsException" U ∧ va_Nc "java/lang/UnsupportedOperationException" "java/lang/IllegalArgumentException" U ∧ va_Nc "java/lang/IllegalArgumentException" "java/util/NoSuchElementException" U ∧ va_Nc "java/util/NoSuchElementException" "java/lang/IllegalArgumentException" U
theorem rc_N.moved {u U : State} (hvm : u.vm.Alike U.vm) (h : rc_N u) : rc_N U := ⟨h.1.moved hvm, h.2.1.moved hvm, h.2.2.1.moved hvm, h.2.2.2.1.moved hvm, h.2.2.2.2.moved hvm⟩
/-- the script: where it lies, its length, its numbers -/
abbrev rc_Z := Nat × Nat × (Nat → Int32)
def rc_Xz (z : rc_Z) (Y : rc_Y) (U : State) (H : Heap) : Prop := va_X z.1 z.2.1 z.2.2 U H ∧ z.1 < Y.1
theorem rc_Xz.go {z : rc_Z} {Y : rc_Y} {s U : State} {H H1 : Heap} (h : rc_Xz z Y s H) (hal : s.vm.Alike U.vm) (hq : H1[z.1]? = H[z.1]?) : rc_Xz z Y U H1 := ⟨(va_X.moved hal h.1).kept hq, h.2⟩
def rc_PL (Y : rc_Y) (sh : Nat → Nat) (rf : rc_F) (σ : rc_S) (sz : Nat) (z : rc_Z) (av : List Value) : Array Value → State → Prop := va_Pc av (fun U => U.heap.size = sz ∧ rc_B Y sh rf σ U ∧ rc_N U ∧ rc_Xz z Y U U.heap)
/-- the row of sums -/
abbrev rc_ro (dL : ClassId) (o : Nat) (f : Nat → Int64) : va_W := [(o, .inl (dL, 60, .inr (.inl f)))]
def rc_PO (Y : rc_Y) (sh : Nat → Nat) (rf : rc_F) (σ : rc_S) (sz : Nat) (z : rc_Z) (dL : ClassId) (o : Nat) (f : Nat → Int64) (av : List Value) : Array Value → State → Prop := va_Pc av (fun U => U.heap.size = sz ∧ rc_B Y sh rf σ U ∧ rc_N U ∧ rc_Xz z Y U U.heap ∧ va_P Y.2.1 vwCl (rc_ro dL o f) U.heap ∧ va_K Y.2.1 vwCl [(dL, .long)] U)
theorem rc_Bc {Y : rc_Y} {sh : Nat → Nat} {rf : rc_F} {σ : rc_S} {U : State} {a : Array Value} {g : JFrame} {mk : MethodId} (q : rc_B Y sh rf σ U) : rc_B Y sh rf σ (U.calling g mk a) := by
  obtain ⟨qW, qK, qE⟩ := q
  refine ⟨qW, va_K.moved (u := U) (U := U.calling g mk a) (Vm.Alike.refl U.vm) qK, rc_E.heap (s := U) (U := U.calling g mk a) (H := U.heap) qE (Vm.Alike.refl U.vm) (fun w hw => ?_) (fun i hi => vk_R.same (u := U) rfl (rc_E_R qE i hi)) (Nat.le_refl _) (fun _ _ _ => rfl)⟩
  have hwk := (List.mem_filter.mp hw).2
  refine va_Nw.same (u := U) ?_ rfl (rc_E_nw qE w hw)
  cases w <;> first | rfl | cases hwk
theorem rc_blindL {Y : rc_Y} {sh : Nat → Nat} {rf : rc_F} {σ : rc_S} {sz : Nat} {z : rc_Z} {av : List Value} : FrameBlind (rc_PL Y sh rf σ sz z av) := by
  intro a U g mk q
  obtain ⟨q0, q1, qB, qN, qX⟩ := q
  exact ⟨q0, q1, rc_Bc qB, rc_N.moved (u := U) (U := U.calling g mk a) (Vm.Alike.refl U.vm) qN, rc_Xz.go (s := U) (U := U.calling g mk a) (H := U.heap) qX (Vm.Alike.refl U.vm) rfl⟩
theorem rc_blindO {Y : rc_Y} {sh : Nat → Nat} {rf : rc_F} {σ : rc_S} {sz : Nat} {z : rc_Z} {dL : ClassId} {o : Nat} {f : Nat → Int64} {av : List Value} : FrameBlind (rc_PO Y sh rf σ sz z dL o f av) := by
  intro a U g mk q
  obtain ⟨q0, q1, qB, qN, qX, qO, qK⟩ := q
  exact ⟨q0, q1, rc_Bc qB, rc_N.moved (u := U) (U := U.calling g mk a) (Vm.Alike.refl U.vm) qN, rc_Xz.go (s := U) (U := U.calling g mk a) (H := U.heap) qX (Vm.Alike.refl U.vm) rfl, qO, va_K.moved (u := U) (U := U.calling g mk a) (Vm.Alike.refl U.vm) qK⟩
section RCL
variable {p : Program} {l : Launch} {e : Env} {R : Room} {s : State} {m : MethodId} {args : Array Value} {below : List Frame} {meth : Method} {c : Code} {H H0 H1 : Heap} {locs : List Loc} {cells slots : Nat} {Q : State → Prop}
variable {cc : ByteArray} {pc : Nat} {ls : Array Slot} {rest : List Value} {Y : rc_Y} {sh : Nat → Nat} {rf : rc_F} {σ σ' σ1 : rc_S} {o sz : Nat} {dL : ClassId} {z : rc_Z}
/-- the script lies below what is written -/
theorem rc_Xb (hT : rc_T Y sh rf) (hE : rc_E Y s s.heap) (hX : rc_Xz z Y s s.heap) : z.1 < s.heap.size ∧ ¬ rc_A sh s.heap.size z.1 := by
  have h1 := Nat.lt_of_lt_of_le hX.2 hE.1
  refine ⟨h1, fun h => ?_⟩
  rcases h with h | h
  · exact absurd (rc_t_b hT h) (Nat.not_le.mpr hX.2)
  · exact absurd h1 (Nat.not_lt.mpr h)
theorem rc_Xk (hT : rc_T Y sh rf) (hE : rc_E Y s s.heap) (hX : rc_Xz z Y s s.heap) (hS : va_S (rc_A sh s.heap.size) s.heap H locs) : H[z.1]? = s.heap[z.1]? := hS.2.1 _ (rc_Xb hT hE hX).1 (rc_Xb hT hE hX).2
theorem rc_preSL (hT : rc_T Y sh rf) (hW : rc_W Y sh rf σ H) (hK : va_K Y.2.1 vwCl (rc_tys Y.2.2.1) s) (hE : rc_E Y s s.heap) (hN : rc_N s) (hX : rc_Xz z Y s s.heap) (hS : va_S (rc_A sh s.heap.size) s.heap H locs) (As : List Value) : PreS s H (rc_PL Y sh rf σ H.size z As) As :=
  ⟨rc_blindL, fun U hU hwm => by
    obtain ⟨q0, q1, qB⟩ := rc_pre hT hW hK hE hS As U hU hwm
    exact ⟨q0, q1, qB, hN.moved hwm.alike, hX.go hwm.alike (by rw [hU]; exact rc_Xk hT hE hX hS)⟩⟩
theorem rc_preSO {f : Nat → Int64} (hT : rc_T Y sh rf) (hW : rc_W Y sh rf σ H) (hK : va_K Y.2.1 vwCl (rc_tys Y.2.2.1) s) (hE : rc_E Y s s.heap) (hN : rc_N s) (hX : rc_Xz z Y s s.heap) (hO : va_P Y.2.1 vwCl (rc_ro dL o f) H) (hK2 : va_K Y.2.1 vwCl [(dL, .long)] s) (hS : va_S (rc_A sh s.heap.size) s.heap H locs) (As : List Value) : PreS s H (rc_PO Y sh rf σ H.size z dL o f As) As :=
  ⟨rc_blindO, fun U hU hwm => by
    obtain ⟨q0, q1, qB⟩ := rc_pre hT hW hK hE hS As U hU hwm
    exact ⟨q0, q1, qB, hN.moved hwm.alike, hX.go hwm.alike (by rw [hU]; exact rc_Xk hT hE hX hS), by rw [hU]; exact hO, va_K.moved hwm.alike hK2⟩⟩
/-! calls that answer a long, a double, a float -/
theorem rc_cl {mc ms : Nat} {st0 : List Value} {av : Array Value} {v : Int64} (hS : va_S (rc_A sh s.heap.size) s.heap H locs)
    (hr : va_Run p l e R s m args below meth c H locs cells slots mc ms (F0 m pc ls st0) rest (va_Ql (fun (r' : Int64) (_ : Unit) => r' = v) (fun _ t => rc_W Y sh rf σ1 t.heap) (rc_A sh H.size) av) (rc_A sh H.size))
    (kk : ∀ (H1 : Heap) (locs1 : List Loc), rc_W Y sh rf σ1 H1 → va_S (rc_A sh s.heap.size) s.heap H1 locs1 → W p l e R s m args below meth c H1 locs1 (cells + mc) (slots + ms) Q (F0 m (pc + 3) ls (.long v :: rest))) : W p l e R s m args below meth c H locs cells slots Q (F0 m pc ls st0) :=
  va_calll hr hS rc_Ain (rc_Afr hS) (fun r u t H1 locs1 ht _ hp hB _ _ hS1 => by
    subst hp
    exact kk H1 locs1 (by rw [← ht]; exact hB) hS1)
theorem rc_cd {mc ms : Nat} {st0 : List Value} {av : Array Value} {v : UInt64} (hS : va_S (rc_A sh s.heap.size) s.heap H locs)
    (hr : va_Run p l e R s m args below meth c H locs cells slots mc ms (F0 m pc ls st0) rest (va_Qd (fun (r' : UInt64) (_ : Unit) => r' = v) (fun _ t => rc_W Y sh rf σ1 t.heap) (rc_A sh H.size) av) (rc_A sh H.size))
    (kk : ∀ (H1 : Heap) (locs1 : List Loc), rc_W Y sh rf σ1 H1 → va_S (rc_A sh s.heap.size) s.heap H1 locs1 → W p l e R s m args below meth c H1 locs1 (cells + mc) (slots + ms) Q (F0 m (pc + 3) ls (.double v :: rest))) : W p l e R s m args below meth c H locs cells slots Q (F0 m pc ls st0) :=
  va_calld hr hS rc_Ain (rc_Afr hS) (fun r u t H1 locs1 ht _ hp hB _ _ hS1 => by
    subst hp
    exact kk H1 locs1 (by rw [← ht]; exact hB) hS1)
theorem rc_cf {mc ms : Nat} {st0 : List Value} {av : Array Value} {v : UInt32} (hS : va_S (rc_A sh s.heap.size) s.heap H locs)
    (hr : va_Run p l e R s m args below meth c H locs cells slots mc ms (F0 m pc ls st0) rest (va_Qf (fun (r' : UInt32) (_ : Unit) => r' = v) (fun _ t => rc_W Y sh rf σ1 t.heap) (rc_A sh H.size) av) (rc_A sh H.size))
    (kk : ∀ (H1 : Heap) (locs1 : List Loc), rc_W Y sh rf σ1 H1 → va_S (rc_A sh s.heap.size) s.heap H1 locs1 → W p l e R s m args below meth c H1 locs1 (cells + mc) (slots + ms) Q (F0 m (pc + 3) ls (.float v :: rest))) : W p l e R s m args below meth c H locs cells slots Q (F0 m pc ls st0) :=
  va_callf hr hS rc_Ain (rc_Afr hS) (fun r u t H1 locs1 ht _ hp hB _ _ hS1 => by
    subst hp
    exact kk H1 locs1 (by rw [← ht]; exact hB) hS1)
/-! calls beside the row of sums -/
theorem rc_Ok {en : va_E} (ho : sh o = 0) (hO : va_P Y.2.1 vwCl [(o, en)] H) (hq : ∀ q : Nat, q < H.size → ¬ rc_A sh H.size q → H1[q]? = H[q]?) : va_P Y.2.1 vwCl [(o, en)] H1 := hO.kept fun k q hk => by
  have hz : k < 1 := (List.getElem?_eq_some_iff.mp hk).1
  rw [show k = 0 by omega] at hk
  cases hk
  have hlt := (hO 0 _ rfl).lt
  refine hq o hlt (fun z => ?_)
  rcases z with z | z
  · exact z ho
  · exact absurd hlt (Nat.not_lt.mpr z)
theorem rc_ciO {en : va_E} {mc ms : Nat} {st0 : List Value} {av : Array Value} {v : Int32} (ho : sh o = 0) (hO : va_P Y.2.1 vwCl [(o, en)] H) (hS : va_S (rc_A sh s.heap.size) s.heap H locs)
    (hr : va_Run p l e R s m args below meth c H locs cells slots mc ms (F0 m pc ls st0) rest (va_Qi (fun (r' : Int32) (_ : Unit) => r' = v) (fun _ t => rc_W Y sh rf σ1 t.heap) (rc_A sh H.size) av) (rc_A sh H.size))
    (kk : ∀ (H1 : Heap) (locs1 : List Loc), va_P Y.2.1 vwCl [(o, en)] H1 → rc_W Y sh rf σ1 H1 → va_S (rc_A sh s.heap.size) s.heap H1 locs1 → W p l e R s m args below meth c H1 locs1 (cells + mc) (slots + ms) Q (F0 m (pc + 3) ls (.int v :: rest))) : W p l e R s m args below meth c H locs cells slots Q (F0 m pc ls st0) :=
  va_calli hr hS rc_Ain (rc_Afr hS) (fun r u t H1 locs1 ht _ hp hB _ hq hS1 => by
    subst hp
    exact kk H1 locs1 (rc_Ok ho hO hq) (by rw [← ht]; exact hB) hS1)
theorem rc_clO {en : va_E} {mc ms : Nat} {st0 : List Value} {av : Array Value} {v : Int64} (ho : sh o = 0) (hO : va_P Y.2.1 vwCl [(o, en)] H) (hS : va_S (rc_A sh s.heap.size) s.heap H locs)
    (hr : va_Run p l e R s m args below meth c H locs cells slots mc ms (F0 m pc ls st0) rest (va_Ql (fun (r' : Int64) (_ : Unit) => r' = v) (fun _ t => rc_W Y sh rf σ1 t.heap) (rc_A sh H.size) av) (rc_A sh H.size))
    (kk : ∀ (H1 : Heap) (locs1 : List Loc), va_P Y.2.1 vwCl [(o, en)] H1 → rc_W Y sh rf σ1 H1 → va_S (rc_A sh s.heap.size) s.heap H1 locs1 → W p l e R s m args below meth c H1 locs1 (cells + mc) (slots + ms) Q (F0 m (pc + 3) ls (.long v :: rest))) : W p l e R s m args below meth c H locs cells slots Q (F0 m pc ls st0) :=
  va_calll hr hS rc_Ain (rc_Afr hS) (fun r u t H1 locs1 ht _ hp hB _ hq hS1 => by
    subst hp
    exact kk H1 locs1 (rc_Ok ho hO hq) (by rw [← ht]; exact hB) hS1)
theorem rc_laldO {f : Nat → Int64} (hexec : p.tables.exec = Jvm.exec) (hb : c.code = cc) (hK2 : va_K Y.2.1 vwCl [(dL, .long)] s) (hO : va_P Y.2.1 vwCl (rc_ro dL o f) H) {i : Int32} (hin : vp_in i 60) (hdg : decode cc pc = .ok (.laload, 1))
    (kk : W p l e R s m args below meth c H locs cells slots Q (F0 m (pc + 1) ls (.long (f i.toNatClampNeg) :: rest))) : W p l e R s m args below meth c H locs cells slots Q (F0 m pc ls (.int i :: .ref o :: rest)) :=
  va_lald hexec hb hK2 hO 0 0 rfl rfl hin hdg kk
theorem rc_lastN {n : Nat} {f : Nat → Int64} (hexec : p.tables.exec = Jvm.exec) (hb : c.code = cc) (hK2 : va_K Y.2.1 vwCl [(dL, .long)] s) (hO : va_P Y.2.1 vwCl [(o, .inl (dL, n, .inr (.inl f)))] H) (hW : rc_W Y sh rf σ H) (ho : sh o = 0) (hA : rc_A sh sz o) (hS : va_S (rc_A sh sz) H0 H locs) {i : Int32} {x : Int64} (hin : vp_in i n) (hdg : decode cc pc = .ok (.lastore, 1))
    (kk : ∀ (H1 : Heap) (locs1 : List Loc), va_P Y.2.1 vwCl [(o, .inl (dL, n, .inr (.inl (vp_updL f i.toNatClampNeg x))))] H1 → rc_W Y sh rf σ H1 → va_S (rc_A sh sz) H0 H1 locs1 → W p l e R s m args below meth c H1 locs1 cells slots Q (F0 m (pc + 1) ls rest)) : W p l e R s m args below meth c H locs cells slots Q (F0 m pc ls (.long x :: .int i :: .ref o :: rest)) := by
  refine W.last hexec hb (hO 0 _ rfl) ((hK2.2 0 _ rfl).1 n (fun j => .long (f j))) (fun q => by cases q) (by show ¬ (i < 0 ∨ (arrV _ _ _).slots.size ≤ _); rw [arrV_size]; exact hin) rfl rfl hdg fun H1 e1 z oq => ?_
  refine kk H1 _ (fun k q hk => ?_) (hW.kept fun a ha => oq a (fun h => ha (by rw [h]; exact ho))) (hS.put z oq hA)
  have hz : k < 1 := (List.getElem?_eq_some_iff.mp hk).1
  rw [show k = 0 by omega] at hk
  cases hk
  show H1[o]? = some (vp_cell _ _)
  rw [e1]
  rw [vp_cell_l, vp_cell_l, arrV_store]
  congr 2
  funext q
  by_cases hq : q = i.toNatClampNeg
  · subst hq
    simp [updV, vp_updL]
  · simp [updV, vp_updL, hq]
theorem rc_elret {v r : Int64} {mc ms : Nat} (hx : p.tables.exec = Jvm.exec) (hb : c.code = cc) (hr : meth.sig.returnType = some .long) (hlocks : meth.locks = false) (hW : rc_W Y sh rf σ H) (hS : va_S (rc_A sh s.heap.size) s.heap H locs) (hc : cells ≤ mc) (hs : slots ≤ ms) (hm : some (v, σ) = some (r, σ')) (hdg : decode cc pc = .ok (.lreturn, 1)) :
    W p l e R s m args below meth c H locs cells slots (MQ below (va_Ql (fun (r' : Int64) (_ : Unit) => r' = r) (fun _ t => rc_W Y sh rf σ' t.heap) (rc_A sh s.heap.size)) args s mc ms (rc_A sh s.heap.size)) (F0 m pc ls [.long v]) := by
  cases hm
  refine W.widen hc hs ?_
  exact W.lret (v := v) hx hb hr (fun t ht _ => ⟨⟨v, (), rfl, rfl, show rc_W Y sh rf σ t.heap by rw [ht]; exact hW⟩, hS.F ht⟩) hS.2.2 hdg hlocks
end RCL
/-! the law's models: where two ways meet; what a handler answers -/
def rc_jn {α β : Type} (f : α) (g : α → β) : β := g f
theorem rc_jn_el {α β : Type} {f : α} {g : α → β} {y : β} {G : Prop} (h : rc_jn f g = y) (P : α → Prop) (h1 : P f) (h2 : ∀ J, P J → g J = y → G) : G := h2 f h1 h
def rc_lk : List (Nat × Int32) → Nat → Option Int32
  | [], _ => none
  | (a, v) :: L, k => if k = a then some v else rc_lk L k
theorem rc_lk_1 {a k : Nat} {v r : Int32} {L : List (Nat × Int32)} (h : rc_lk ((a, v) :: L) k = some r) : (k = a ∧ r = v) ∨ rc_lk L k = some r := by
  unfold rc_lk at h
  by_cases hk : k = a
  · rw [if_pos hk] at h
    cases h
    exact Or.inl ⟨hk, rfl⟩
  · rw [if_neg hk] at h
    exact Or.inr h
theorem rc_lk_0 {k : Nat} {r : Int32} (h : rc_lk [] k = some r) : False := nomatch h
def rc_tr (g : Option (Nat × Int32 × rc_S)) (L : List (Nat × Int32)) : Option (Int32 × rc_S) := match g with
  | none => none
  | some (k, r, σ) => if k = 0 then some (r, σ) else match rc_lk L k with
    | none => none
    | some v => some (v, σ)
theorem rc_tr_inv {g : Option (Nat × Int32 × rc_S)} {L : List (Nat × Int32)} {r : Int32} {σ : rc_S} (h : rc_tr g L = some (r, σ)) : ∃ k r0, g = some (k, r0, σ) ∧ ((k = 0 ∧ r = r0) ∨ rc_lk L k = some r) := by
  cases g with
  | none => cases h
  | some q =>
    obtain ⟨k, r0, σ0⟩ := q
    unfold rc_tr at h
    by_cases hk : k = 0
    · subst hk
      cases h
      exact ⟨0, _, rfl, Or.inl ⟨rfl, rfl⟩⟩
    · simp only [if_neg hk] at h
      cases hL : rc_lk L k with
      | none => rw [hL] at h; cases h
      | some v => rw [hL] at h; cases h; exact ⟨k, r0, rfl, Or.inr hL⟩
def rc_mz (g : Option (Nat × Int32 × rc_S)) : Option (Nat × Int32 × rc_S) := match g with
  | none => none
  | some (k, r, σ) => some (k, if r = 0 then 0 else 1, σ)
theorem rc_mz_inv {g : Option (Nat × Int32 × rc_S)} {k : Nat} {r : Int32} {σ : rc_S} (h : rc_mz g = some (k, r, σ)) : ∃ r0, g = some (k, r0, σ) ∧ r = if r0 = 0 then 0 else 1 := by
  cases g with
  | none => cases h
  | some q =>
    obtain ⟨k, r0, σ0⟩ := q
    cases h
    exact ⟨r0, rfl, rfl⟩
def rc_td {α : Type} (g : Option (Nat × α × rc_S)) (k1 : Nat) (v1 : α) : Option (α × rc_S) := match g with
  | none => none
  | some (k, r, σ) => if k = 0 then some (r, σ) else if k = k1 then some (v1, σ) else none
theorem rc_td_inv {α : Type} {g : Option (Nat × α × rc_S)} {k1 : Nat} {v1 r : α} {σ : rc_S} (h : rc_td g k1 v1 = some (r, σ)) : ∃ k r0, g = some (k, r0, σ) ∧ ((k = 0 ∧ r = r0) ∨ (k = k1 ∧ r = v1)) := by
  cases g with
  | none => cases h
  | some q =>
    obtain ⟨k, r0, σ0⟩ := q
    unfold rc_td at h
    by_cases hk : k = 0
    · subst hk
      cases h
      exact ⟨0, _, rfl, Or.inl ⟨rfl, rfl⟩⟩
    · simp only [if_neg hk] at h
      by_cases hk1 : k = k1
      · subst hk1
        simp only [if_true] at h
        cases h
        exact ⟨k, r0, rfl, Or.inr ⟨rfl, rfl⟩⟩
      · simp only [if_neg hk1] at h
        cases h
