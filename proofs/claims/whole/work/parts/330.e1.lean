/-! THE LAW'S LOOP: rows -/
abbrev lx_l (b x N : Nat) : List (Nat × Value) := [(0, .ref b), (1, .ref x), (2, .ref (x + 308)), (3, .ref (x + 316)), (4, .ref (x + 317)), (5, .int (nI (4 * N)))]
def lx_J (Y : rc_Y) (x : Nat) (dL dD : ClassId) (N : Nat) (H : Heap) : Prop := ∃ (σ : rc_S) (fL : Nat → Int64) (fD : Nat → UInt64), rc_W Y (w_sh x) (w_rf x) σ H ∧ pq_I (w_rf x) σ x N ∧ va_P Y.2.1 vwCl (rc_lo dL (x + 316) fL) H ∧ va_P Y.2.1 vwCl (rc_do dD (x + 317) fD) H
/-- what holds of the start, all the law's way -/
def lx_C (l : Launch) (Y : rc_Y) (p : Program) (s : State) (m : MethodId) (meth : Method) (c : Code) (b L x : Nat) (xs : Nat → Int32) (dL dD : ClassId) : Prop :=
  p.tables.exec = Jvm.exec ∧ c.code = code ∧ c.maxLocals = 9 ∧ s.vm.findClass RL = some m.cls ∧ (∀ w ∈ rc_big, w.before #[Value.ref b] s = true) ∧ va_X b L xs s s.heap ∧ b < s.heap.size ∧ L ≤ 2048 ∧ x = s.heap.size ∧ Y.1 = x ∧
  va_K Y.2.1 vwCl (rc_tys Y.2.2.1) s ∧ rc_E Y s s.heap ∧ va_K Y.2.1 vwCl [(dL, .long)] s ∧ va_K Y.2.1 vwCl [(dD, .double)] s ∧ rc_N s ∧ l.stackTraces = false
section LX
variable {p : Program} {l : Launch} {e : Env} {R : Room} {s : State} {m : MethodId} {args : Array Value} {below : List Frame} {meth : Method} {c : Code} {H : Heap} {locs : List Loc} {cells slots : Nat} {Q : State → Prop}
variable {cc : ByteArray} {pc : Nat} {ls : Array Slot} {rest : List Value} {Y : rc_Y} {x N b L : Nat} {xs : Nat → Int32} {dL dD : ClassId} {σ σ1 : rc_S} {fL : Nat → Int64} {fD : Nat → UInt64}
theorem w_shlt {x a : Nat} (h : a < x) : w_sh x a = 0 := by
  unfold w_sh
  rw [if_neg (by omega)]
theorem lx_sld (hx : p.tables.exec = Jvm.exec) (hb : c.code = cc) (hX : va_X b L xs s s.heap) (hbl : b < s.heap.size) (hxe : x = s.heap.size) (hL : L ≤ 2048) (hS : va_S (rc_A (w_sh x) s.heap.size) s.heap H locs) {i : Int32} {j : Nat} (hj : j < L) (hi : i = nI j) (hdg : decode cc pc = .ok (.iaload, 1))
    (kk : W p l e R s m args below meth c H locs cells slots Q (F0 m (pc + 1) ls (.int (xs j) :: rest))) : W p l e R s m args below meth c H locs cells slots Q (F0 m pc ls (.int i :: .ref b :: rest)) := by
  subst hi
  refine va_sld hx hb hX hbl (A := rc_A (w_sh x) s.heap.size) (fun h => ?_) hS (nI_in hj (by omega)) hdg ?_
  · rcases h with h | h
    · exact h (w_shlt (by omega))
    · omega
  · rw [nI_clamp (by omega)]
    exact kk
theorem lx_slen (hx : p.tables.exec = Jvm.exec) (hb : c.code = cc) (hX : va_X b L xs s s.heap) (hbl : b < s.heap.size) (hxe : x = s.heap.size) (hS : va_S (rc_A (w_sh x) s.heap.size) s.heap H locs) (hdg : decode cc pc = .ok (.arraylength, 1))
    (kk : W p l e R s m args below meth c H locs cells slots Q (F0 m (pc + 1) ls (.int (nI L) :: rest))) : W p l e R s m args below meth c H locs cells slots Q (F0 m pc ls (.ref b :: rest)) :=
  va_slen hx hb hX hbl (A := rc_A (w_sh x) s.heap.size) (fun h => by
    rcases h with h | h
    · exact h (w_shlt (by omega))
    · omega) hS hdg kk
theorem lx_lald {o : Nat} (hx : p.tables.exec = Jvm.exec) (hb : c.code = cc) (hK2 : va_K Y.2.1 vwCl [(dL, .long)] s) (hO : va_P Y.2.1 vwCl (rc_lo dL o fL) H) (hdg : decode cc pc = .ok (.laload, 1))
    (kk : W p l e R s m args below meth c H locs cells slots Q (F0 m (pc + 1) ls (.long (fL 0) :: rest))) : W p l e R s m args below meth c H locs cells slots Q (F0 m pc ls (.int 0 :: .ref o :: rest)) :=
  W.lald (v := .long (fL 0)) hx hb (hO 0 _ rfl) ((hK2.2 0 _ rfl).1 1 (fun j => .long (fL j))) (fun q => by cases q) (by show ¬ ((0 : Int32) < 0 ∨ (arrV _ _ _).slots.size ≤ _); rw [arrV_size]; show ¬ ((0 : Int32) < 0 ∨ 1 ≤ (0 : Int32).toNatClampNeg); decide) (by show (arrV _ _ _).slots[_]? = _; rw [arrV_read _ _ (show (0 : Int32).toNatClampNeg < 1 by decide)]; rfl) rfl rfl hdg kk
theorem lx_dald {o : Nat} (hx : p.tables.exec = Jvm.exec) (hb : c.code = cc) (hK2 : va_K Y.2.1 vwCl [(dD, .double)] s) (hO : va_P Y.2.1 vwCl (rc_do dD o fD) H) (hdg : decode cc pc = .ok (.daload, 1))
    (kk : W p l e R s m args below meth c H locs cells slots Q (F0 m (pc + 1) ls (.double (fD 0) :: rest))) : W p l e R s m args below meth c H locs cells slots Q (F0 m pc ls (.int 0 :: .ref o :: rest)) :=
  W.dald (v := .double (fD 0)) hx hb (hO 0 _ rfl) ((hK2.2 0 _ rfl).1 1 (fun j => .double (fD j))) (fun q => by cases q) (by show ¬ ((0 : Int32) < 0 ∨ (arrV _ _ _).slots.size ≤ _); rw [arrV_size]; show ¬ ((0 : Int32) < 0 ∨ 1 ≤ (0 : Int32).toNatClampNeg); decide) (by show (arrV _ _ _).slots[_]? = _; rw [arrV_read _ _ (show (0 : Int32).toNatClampNeg < 1 by decide)]; rfl) rfl rfl hdg kk
theorem lx_preL {sh : Nat → Nat} {rf : rc_F} {w : va_W} {ty : List (ClassId × FieldType)} (hT : rc_T Y sh rf) (hW : rc_W Y sh rf σ H) (hK : va_K Y.2.1 vwCl (rc_tys Y.2.2.1) s) (hE : rc_E Y s s.heap) (hS : va_S (rc_A sh s.heap.size) s.heap H locs) (hO : va_P Y.2.1 vwCl w H) (hK2 : va_K Y.2.1 vwCl ty s) (hN : rc_N s) (As : List Value) : PreS s H (rc_PL Y sh rf σ H.size w ty As) As :=
  ⟨rc_blindL, fun U hU hwm => ⟨rfl, by rw [hU], ⟨by rw [hU]; exact hW, va_K.moved hwm.alike hK, hE.go hwm (by rw [hU]; exact hS.1) (fun q h1 h2 => by rw [hU]; exact rc_below hT hE hS q h1 h2)⟩, by rw [hU]; exact hO, va_K.moved hwm.alike hK2, hN.moved hwm.alike⟩⟩
theorem lx_kp {H1 : Heap} {o o2 : Nat} {en : va_E} (ho : w_sh x o = 0) (hne : o ≠ o2) (hO : va_P Y.2.1 vwCl [(o, en)] H) (hq : ∀ q : Nat, q < H.size → ¬ rc_A2 (w_sh x) o2 H.size q → H1[q]? = H[q]?) : va_P Y.2.1 vwCl [(o, en)] H1 := hO.kept fun k q hk => by
  have hz : k < 1 := (List.getElem?_eq_some_iff.mp hk).1
  rw [show k = 0 by omega] at hk
  cases hk
  have hlt := (hO 0 _ rfl).lt
  refine hq o hlt (fun z => ?_)
  rcases z with (z | z) | z
  · exact z ho
  · exact absurd hlt (Nat.not_lt.mpr z)
  · exact hne z
theorem lx_A2 {o : Nat} (hxe : x = s.heap.size) (ho : x ≤ o) : ∀ q, q < H.size → rc_A2 (w_sh x) o H.size q → rc_A (w_sh x) s.heap.size q := fun q h1 h2 => by
  rcases h2 with h2 | h2
  · exact rc_Ain q h1 h2
  · exact Or.inr (by omega)
theorem lx_A2f {o : Nat} (hxe : x = s.heap.size) (ho : x ≤ o) (hS : va_S (rc_A (w_sh x) s.heap.size) s.heap H locs) : ∀ q, rc_A2 (w_sh x) o H.size q → rc_A (w_sh x) s.heap.size q := fun q h2 => by
  rcases h2 with h2 | h2
  · exact rc_Afr hS q h2
  · exact Or.inr (by omega)
theorem lx_wL {mc ms : Nat} {st0 : List Value} {av : Array Value} {cd : Int32} {post : (Nat → Int64) → Prop} (hxe : x = s.heap.size) (hS : va_S (rc_A (w_sh x) s.heap.size) s.heap H locs) (hOD : va_P Y.2.1 vwCl (rc_do dD (x + 317) fD) H)
    (hr : va_Run p l e R s m args below meth c H locs cells slots mc ms (F0 m pc ls st0) rest (va_Qi (fun (r' : Int32) (f' : Nat → Int64) => r' = cd ∧ post f') (fun f' t => rc_W Y (w_sh x) (w_rf x) σ1 t.heap ∧ va_P Y.2.1 vwCl (rc_lo dL (x + 316) f') t.heap) (rc_A2 (w_sh x) (x + 316) H.size) av) (rc_A2 (w_sh x) (x + 316) H.size))
    (kk : ∀ (f' : Nat → Int64) (H1 : Heap) (locs1 : List Loc), post f' → rc_W Y (w_sh x) (w_rf x) σ1 H1 → va_P Y.2.1 vwCl (rc_lo dL (x + 316) f') H1 → va_P Y.2.1 vwCl (rc_do dD (x + 317) fD) H1 → va_S (rc_A (w_sh x) s.heap.size) s.heap H1 locs1 → W p l e R s m args below meth c H1 locs1 (cells + mc) (slots + ms) Q (F0 m (pc + 3) ls (.int cd :: rest))) : W p l e R s m args below meth c H locs cells slots Q (F0 m pc ls st0) :=
  va_calli hr hS (lx_A2 hxe (by omega)) (lx_A2f hxe (by omega) hS) fun r f' t H1 locs1 ht _ hp hB _ hq hS1 => by
    obtain ⟨rfl, hp2⟩ := hp
    rw [ht] at hB
    exact kk f' H1 locs1 hp2 hB.1 hB.2 (lx_kp (w_sh0 (by omega)) (by omega) hOD hq) hS1
theorem lx_wD {mc ms : Nat} {st0 : List Value} {av : Array Value} {cd : Int32} {post : (Nat → UInt64) → Prop} (hxe : x = s.heap.size) (hS : va_S (rc_A (w_sh x) s.heap.size) s.heap H locs) (hOL : va_P Y.2.1 vwCl (rc_lo dL (x + 316) fL) H)
    (hr : va_Run p l e R s m args below meth c H locs cells slots mc ms (F0 m pc ls st0) rest (va_Qi (fun (r' : Int32) (f' : Nat → UInt64) => r' = cd ∧ post f') (fun f' t => rc_W Y (w_sh x) (w_rf x) σ1 t.heap ∧ va_P Y.2.1 vwCl (rc_do dD (x + 317) f') t.heap) (rc_A2 (w_sh x) (x + 317) H.size) av) (rc_A2 (w_sh x) (x + 317) H.size))
    (kk : ∀ (f' : Nat → UInt64) (H1 : Heap) (locs1 : List Loc), post f' → rc_W Y (w_sh x) (w_rf x) σ1 H1 → va_P Y.2.1 vwCl (rc_lo dL (x + 316) fL) H1 → va_P Y.2.1 vwCl (rc_do dD (x + 317) f') H1 → va_S (rc_A (w_sh x) s.heap.size) s.heap H1 locs1 → W p l e R s m args below meth c H1 locs1 (cells + mc) (slots + ms) Q (F0 m (pc + 3) ls (.int cd :: rest))) : W p l e R s m args below meth c H locs cells slots Q (F0 m pc ls st0) :=
  va_calli hr hS (lx_A2 hxe (by omega)) (lx_A2f hxe (by omega) hS) fun r f' t H1 locs1 ht _ hp hB _ hq hS1 => by
    obtain ⟨rfl, hp2⟩ := hp
    rw [ht] at hB
    exact kk f' H1 locs1 hp2 hB.1 (lx_kp (w_sh0 (by omega)) (by omega) hOL hq) hB.2 hS1
theorem lx_mi {mc ms : Nat} {st0 : List Value} {av : Array Value} {v : Int32} (hS : va_S (rc_A (w_sh x) s.heap.size) s.heap H locs) (hOL : va_P Y.2.1 vwCl (rc_lo dL (x + 316) fL) H) (hOD : va_P Y.2.1 vwCl (rc_do dD (x + 317) fD) H)
    (hr : va_Run p l e R s m args below meth c H locs cells slots mc ms (F0 m pc ls st0) rest (va_Qi (fun (r' : Int32) (_ : Unit) => r' = v) (fun _ t => rc_W Y (w_sh x) (w_rf x) σ1 t.heap) (rc_A (w_sh x) H.size) av) (rc_A (w_sh x) H.size))
    (kk : ∀ (H1 : Heap) (locs1 : List Loc), rc_W Y (w_sh x) (w_rf x) σ1 H1 → va_P Y.2.1 vwCl (rc_lo dL (x + 316) fL) H1 → va_P Y.2.1 vwCl (rc_do dD (x + 317) fD) H1 → va_S (rc_A (w_sh x) s.heap.size) s.heap H1 locs1 → W p l e R s m args below meth c H1 locs1 (cells + mc) (slots + ms) Q (F0 m (pc + 3) ls (.int v :: rest))) : W p l e R s m args below meth c H locs cells slots Q (F0 m pc ls st0) :=
  va_calli hr hS rc_Ain (rc_Afr hS) fun r u t H1 locs1 ht _ hp hB _ hq hS1 => by
    subst hp
    exact kk H1 locs1 (by rw [← ht]; exact hB) (rc_Ok (w_sh0 (by omega)) hOL hq) (rc_Ok (w_sh0 (by omega)) hOD hq) hS1
theorem lx_md {mc ms : Nat} {st0 : List Value} {av : Array Value} {v : UInt64} (hS : va_S (rc_A (w_sh x) s.heap.size) s.heap H locs) (hOL : va_P Y.2.1 vwCl (rc_lo dL (x + 316) fL) H) (hOD : va_P Y.2.1 vwCl (rc_do dD (x + 317) fD) H)
    (hr : va_Run p l e R s m args below meth c H locs cells slots mc ms (F0 m pc ls st0) rest (va_Qd (fun (r' : UInt64) (_ : Unit) => r' = v) (fun _ t => rc_W Y (w_sh x) (w_rf x) σ1 t.heap) (rc_A (w_sh x) H.size) av) (rc_A (w_sh x) H.size))
    (kk : ∀ (H1 : Heap) (locs1 : List Loc), rc_W Y (w_sh x) (w_rf x) σ1 H1 → va_P Y.2.1 vwCl (rc_lo dL (x + 316) fL) H1 → va_P Y.2.1 vwCl (rc_do dD (x + 317) fD) H1 → va_S (rc_A (w_sh x) s.heap.size) s.heap H1 locs1 → W p l e R s m args below meth c H1 locs1 (cells + mc) (slots + ms) Q (F0 m (pc + 3) ls (.double v :: rest))) : W p l e R s m args below meth c H locs cells slots Q (F0 m pc ls st0) :=
  va_calld hr hS rc_Ain (rc_Afr hS) fun r u t H1 locs1 ht _ hp hB _ hq hS1 => by
    subst hp
    exact kk H1 locs1 (by rw [← ht]; exact hB) (rc_Ok (w_sh0 (by omega)) hOL hq) (rc_Ok (w_sh0 (by omega)) hOD hq) hS1
theorem lx_mf {mc ms : Nat} {st0 : List Value} {av : Array Value} {v : UInt32} (hS : va_S (rc_A (w_sh x) s.heap.size) s.heap H locs) (hOL : va_P Y.2.1 vwCl (rc_lo dL (x + 316) fL) H) (hOD : va_P Y.2.1 vwCl (rc_do dD (x + 317) fD) H)
    (hr : va_Run p l e R s m args below meth c H locs cells slots mc ms (F0 m pc ls st0) rest (va_Qf (fun (r' : UInt32) (_ : Unit) => r' = v) (fun _ t => rc_W Y (w_sh x) (w_rf x) σ1 t.heap) (rc_A (w_sh x) H.size) av) (rc_A (w_sh x) H.size))
    (kk : ∀ (H1 : Heap) (locs1 : List Loc), rc_W Y (w_sh x) (w_rf x) σ1 H1 → va_P Y.2.1 vwCl (rc_lo dL (x + 316) fL) H1 → va_P Y.2.1 vwCl (rc_do dD (x + 317) fD) H1 → va_S (rc_A (w_sh x) s.heap.size) s.heap H1 locs1 → W p l e R s m args below meth c H1 locs1 (cells + mc) (slots + ms) Q (F0 m (pc + 3) ls (.float v :: rest))) : W p l e R s m args below meth c H locs cells slots Q (F0 m pc ls st0) :=
  va_callf hr hS rc_Ain (rc_Afr hS) fun r u t H1 locs1 ht _ hp hB _ hq hS1 => by
    subst hp
    exact kk H1 locs1 (by rw [← ht]; exact hB) (rc_Ok (w_sh0 (by omega)) hOL hq) (rc_Ok (w_sh0 (by omega)) hOD hq) hS1
end LX
