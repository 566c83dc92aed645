/-! THE LAW'S METHODS: beside our world stands an array of one long, or of one double, at o -/
def rc_N (U : State) : Prop := va_Nc "java/lang/IllegalArgumentException" "java/lang/IndexOutOfBoundsException" U ∧ va_Nc "java/util/NoSuchElementException" "java/lang/IndexOutOfBoundsException" U ∧ va_Nc "java/lang/UnsupportedOperationException" "java/lang/IllegalArgumentException" U ∧ va_Nc "java/lang/IllegalArgumentException" "java/util/NoSuchElementException" U ∧ va_Nc "java/util/NoSuchElementException" "java/lang/IllegalArgumentException" U
theorem rc_N.moved {u U : State} (hvm : u.vm.Alike U.vm) (h : rc_N u) : rc_N U := ⟨h.1.moved hvm, h.2.1.moved hvm, h.2.2.1.moved hvm, h.2.2.2.1.moved hvm, h.2.2.2.2.moved hvm⟩
def rc_A2 (sh : Nat → Nat) (o sz : Nat) : Nat → Prop := fun q => rc_A sh sz q ∨ q = o
abbrev rc_lo (dL : ClassId) (o : Nat) (f : Nat → Int64) : va_W := [(o, .inl (dL, 1, .inr (.inl f)))]
abbrev rc_do (dL : ClassId) (o : Nat) (f : Nat → UInt64) : va_W := [(o, .inl (dL, 1, .inr (.inr (.inr (.inl f)))))]
def rc_PL (Y : rc_Y) (sh : Nat → Nat) (rf : rc_F) (σ : rc_S) (sz : Nat) (w : va_W) (ty : List (ClassId × FieldType)) (av : List Value) : Array Value → State → Prop := va_Pc av (fun U => U.heap.size = sz ∧ rc_B Y sh rf σ U ∧ va_P Y.2.1 vwCl w U.heap ∧ va_K Y.2.1 vwCl ty U ∧ rc_N U)
theorem rc_blindL {Y : rc_Y} {sh : Nat → Nat} {rf : rc_F} {σ : rc_S} {sz : Nat} {w : va_W} {ty : List (ClassId × FieldType)} {av : List Value} : FrameBlind (rc_PL Y sh rf σ sz w ty av) := by
  intro a U g mk q
  obtain ⟨q0, q1, ⟨qW, qK, qE⟩, qO, qT, qN⟩ := q
  refine ⟨q0, q1, ⟨qW, va_K.moved (u := U) (U := U.calling g mk a) (Vm.Alike.refl U.vm) qK, rc_E.heap (s := U) (U := U.calling g mk a) (H := U.heap) qE (Vm.Alike.refl U.vm) (fun w hw => ?_) (fun i hi => vk_R.same (u := U) rfl (rc_E_R qE i hi)) (Nat.le_refl _) (fun _ _ _ => rfl)⟩, qO, va_K.moved (u := U) (U := U.calling g mk a) (Vm.Alike.refl U.vm) qT, rc_N.moved (u := U) (U := U.calling g mk a) (Vm.Alike.refl U.vm) qN⟩
  have hwk := (List.mem_filter.mp hw).2
  refine va_Nw.same (u := U) ?_ rfl (rc_E_nw qE w hw)
  cases w <;> first | rfl | cases hwk
section RCL
variable {p : Program} {l : Launch} {e : Env} {R : Room} {s : State} {m : MethodId} {args : Array Value} {below : List Frame} {meth : Method} {c : Code} {H H0 H1 : Heap} {locs : List Loc} {cells slots : Nat} {Q : State → Prop}
variable {cc : ByteArray} {pc : Nat} {ls : Array Slot} {rest : List Value} {Y : rc_Y} {sh : Nat → Nat} {rf : rc_F} {σ σ' : rc_S} {o sz : Nat} {dL : ClassId}
theorem rc_S2 (h : va_S (rc_A sh sz) H0 H locs) : va_S (rc_A2 sh o sz) H0 H locs := ⟨h.1, fun q h1 h2 => h.2.1 q h1 (fun z => h2 (Or.inl z)), fun q hq => Or.inl (h.2.2 q hq)⟩
theorem rc_Ok {en : va_E} (ho : sh o = 0) (hO : va_P Y.2.1 vwCl [(o, en)] H) (hq : ∀ q : Nat, q < H.size → ¬ rc_A sh H.size q → H1[q]? = H[q]?) : va_P Y.2.1 vwCl [(o, en)] H1 := hO.kept fun k q hk => by
  have hz : k < 1 := (List.getElem?_eq_some_iff.mp hk).1
  rw [show k = 0 by omega] at hk
  cases hk
  have hlt := (hO 0 _ rfl).lt
  refine hq o hlt (fun z => ?_)
  rcases z with z | z
  · exact z ho
  · exact absurd hlt (Nat.not_lt.mpr z)
theorem rc_last {f : Nat → Int64} (hexec : p.tables.exec = Jvm.exec) (hb : c.code = cc) (hK2 : va_K Y.2.1 vwCl [(dL, .long)] s) (hO : va_P Y.2.1 vwCl (rc_lo dL o f) H) (hW : rc_W Y sh rf σ H) (ho : sh o = 0) (hS : va_S (rc_A2 sh o sz) H0 H locs) {x : Int64} (hdg : decode cc pc = .ok (.lastore, 1))
    (kk : ∀ (H1 : Heap) (locs1 : List Loc), va_P Y.2.1 vwCl (rc_lo dL o (vp_updL f 0 x)) H1 → rc_W Y sh rf σ H1 → va_S (rc_A2 sh o sz) H0 H1 locs1 → W p l e R s m args below meth c H1 locs1 cells slots Q (F0 m (pc + 1) ls rest)) : W p l e R s m args below meth c H locs cells slots Q (F0 m pc ls (.long x :: .int 0 :: .ref o :: rest)) := by
  refine W.last hexec hb (hO 0 _ rfl) ((hK2.2 0 _ rfl).1 1 (fun j => .long (f j))) (fun q => by cases q) (by show ¬ ((0 : Int32) < 0 ∨ (arrV _ _ _).slots.size ≤ _); rw [arrV_size]; show ¬ ((0 : Int32) < 0 ∨ 1 ≤ (0 : Int32).toNatClampNeg); decide) rfl rfl hdg fun H1 e1 z oq => ?_
  refine kk H1 _ (fun k q hk => ?_) (hW.kept fun a ha => oq a (fun h => ha (by rw [h]; exact ho))) (hS.put z oq (Or.inr rfl))
  have hz : k < 1 := (List.getElem?_eq_some_iff.mp hk).1
  rw [show k = 0 by omega] at hk
  cases hk
  show H1[o]? = some (vp_cell _ _)
  rw [e1]
  rw [vp_cell_l, vp_cell_l, arrV_store]
  congr 2
  funext q
  by_cases hq : q = 0
  · subst hq
    simp [updV, vp_updL]
  · simp [updV, vp_updL, hq]
theorem rc_dast {f : Nat → UInt64} (hexec : p.tables.exec = Jvm.exec) (hb : c.code = cc) (hK2 : va_K Y.2.1 vwCl [(dL, .double)] s) (hO : va_P Y.2.1 vwCl (rc_do dL o f) H) (hW : rc_W Y sh rf σ H) (ho : sh o = 0) (hS : va_S (rc_A2 sh o sz) H0 H locs) {x : UInt64} (hdg : decode cc pc = .ok (.dastore, 1))
    (kk : ∀ (H1 : Heap) (locs1 : List Loc), va_P Y.2.1 vwCl (rc_do dL o (vf_upd f 0 x)) H1 → rc_W Y sh rf σ H1 → va_S (rc_A2 sh o sz) H0 H1 locs1 → W p l e R s m args below meth c H1 locs1 cells slots Q (F0 m (pc + 1) ls rest)) : W p l e R s m args below meth c H locs cells slots Q (F0 m pc ls (.double x :: .int 0 :: .ref o :: rest)) := by
  refine W.dast hexec hb (hO 0 _ rfl) ((hK2.2 0 _ rfl).1 1 (fun j => .double (f j))) (fun q => by cases q) (by show ¬ ((0 : Int32) < 0 ∨ (arrV _ _ _).slots.size ≤ _); rw [arrV_size]; show ¬ ((0 : Int32) < 0 ∨ 1 ≤ (0 : Int32).toNatClampNeg); decide) rfl rfl hdg fun H1 e1 z oq => ?_
  refine kk H1 _ (fun k q hk => ?_) (hW.kept fun a ha => oq a (fun h => ha (by rw [h]; exact ho))) (hS.put z oq (Or.inr rfl))
  have hz : k < 1 := (List.getElem?_eq_some_iff.mp hk).1
  rw [show k = 0 by omega] at hk
  cases hk
  show H1[o]? = some (vp_cell _ _)
  rw [e1]
  rw [vp_cell_d, vp_cell_d, arrV_store]
  congr 2
  funext q
  by_cases hq : q = 0
  · subst hq
    simp [updV, vf_upd]
  · simp [updV, vf_upd, hq]
/-- the end: the answer cd, what stands at o -/
theorem rc_wret {T : Type} {post : T → Prop} {wo : T → va_W} {v cd : Int32} {u : T} {mc ms : Nat} (hx : p.tables.exec = Jvm.exec) (hb : c.code = cc) (hr : meth.sig.returnType = some .int) (hlocks : meth.locks = false) (hW : rc_W Y sh rf σ H) (hO : va_P Y.2.1 vwCl (wo u) H) (hS : va_S (rc_A2 sh o s.heap.size) s.heap H locs) (hc : cells ≤ mc) (hs : slots ≤ ms) (hv : v = cd) (hp : post u) (hdg : decode cc pc = .ok (.ireturn, 1)) :
    W p l e R s m args below meth c H locs cells slots (MQ below (va_Qi (fun (r' : Int32) (f' : T) => r' = cd ∧ post f') (fun f' t => rc_W Y sh rf σ t.heap ∧ va_P Y.2.1 vwCl (wo f') t.heap) (rc_A2 sh o s.heap.size)) args s mc ms (rc_A2 sh o s.heap.size)) (F0 m pc ls [.int v]) := by
  refine W.widen hc hs ?_
  exact W.iret (v := v) hx hb hr (fun t ht _ => ⟨⟨v, u, rfl, ⟨hv, hp⟩, by rw [ht]; exact hW, by rw [ht]; exact hO⟩, hS.F ht⟩) hS.2.2 hdg hlocks
end RCL
