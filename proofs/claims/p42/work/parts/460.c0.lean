/-! CONSTRUCTORS: layouts relative to an object's address: kinds, references (as distances, 0: null), numbers -/
abbrev rl_L := Nat → Nat × (Nat → Nat) × (Nat → Int32)
def rl_q (x : Nat) (q : Nat → Nat) : Nat → Nat := fun k => if q k = 0 then 0 else x + q k
def rl_o (ω : rc_O) (x : Nat) (L : rl_L) : rc_O := fun b => if b < x then ω b else ((L (b - x)).1, rl_q x (L (b - x)).2.1, (L (b - x)).2.2)
def rl_0 (t : Nat) : rl_L := fun j => if j = 0 then (t, (fun _ => 0), (fun _ => 0)) else (0, (fun _ => 0), (fun _ => 0))
def rl_s (L : rl_L) (j : Nat) (c : Nat × (Nat → Nat) × (Nat → Int32)) : rl_L := fun i => if i = j then c else L i
def rl_i (L : rl_L) (j k : Nat) (v : Int32) : rl_L := rl_s L j ((L j).1, (L j).2.1, upd (L j).2.2 k v)
def rl_r (L : rl_L) (j k q : Nat) : rl_L := rl_s L j ((L j).1, (fun i => if i = k then q else (L j).2.1 i), (L j).2.2)
def rl_n (L : rl_L) (j t : Nat) : rl_L := rl_s L j (t, (fun _ => 0), (fun _ => 0))
def rl_c (L : rl_L) (n : Nat) (M : rl_L) : rl_L := fun j => if j < n then L j else ((M (j - n)).1, rl_q n (M (j - n)).2.1, (M (j - n)).2.2)
theorem rl_at {ω : rc_O} {x : Nat} {L : rl_L} (j : Nat) : rl_o ω x L (x + j) = ((L j).1, rl_q x (L j).2.1, (L j).2.2) := by
  unfold rl_o
  rw [if_neg (by omega), Nat.add_sub_cancel_left]
theorem rl_os {ω : rc_O} {x : Nat} {L : rl_L} {j t : Nat} {q : Nat → Nat} {r : Nat → Int32} : rc_os (rl_o ω x L) (x + j) (t, rl_q x q, r) = rl_o ω x (rl_s L j (t, q, r)) := by
  funext b
  by_cases h : b = x + j
  · subst h
    rw [rl_at]
    simp [rc_os, rl_s]
  · unfold rc_os
    rw [if_neg h]
    unfold rl_o rl_s
    by_cases h2 : b < x
    · rw [if_pos h2, if_pos h2]
    · rw [if_neg h2, if_neg h2, if_neg (by omega : ¬ b - x = j)]
theorem rl_onew {ω : rc_O} {x : Nat} {L : rl_L} {j t : Nat} : rc_onew (rl_o ω x L) (x + j) t = rl_o ω x (rl_n L j t) := rl_os (q := fun _ => 0)
theorem rl_oi {ω : rc_O} {x : Nat} {L : rl_L} {j k : Nat} {v : Int32} : rc_oi (rl_o ω x L) (x + j) k v = rl_o ω x (rl_i L j k v) := by
  unfold rc_oi
  rw [rl_at]
  exact rl_os
theorem rl_or {ω : rc_O} {x : Nat} {L : rl_L} {j k o : Nat} (ho : o ≠ 0) : rc_or (rl_o ω x L) (x + j) k (x + o) = rl_o ω x (rl_r L j k o) := by
  unfold rc_or
  rw [rl_at]
  refine Eq.trans ?_ rl_os
  congr 2
  congr 1
  funext i
  unfold rl_q
  by_cases h : i = k
  · simp [h, ho]
  · simp [h]
theorem rl_ceq {ω : rc_O} {x n : Nat} {L M : rl_L} : rl_o (rl_o ω x L) (x + n) M = rl_o ω x (rl_c L n M) := by
  funext b
  by_cases h1 : b < x
  · simp only [rl_o, if_pos h1, if_pos (show b < x + n by omega)]
  · by_cases h2 : b < x + n
    · simp only [rl_o, rl_c, if_neg h1, if_pos h2, if_pos (show b - x < n by omega)]
    · simp only [rl_o, rl_c, if_neg h1, if_neg h2, if_neg (show ¬ b - x < n by omega)]
      rw [show b - (x + n) = b - x - n by omega]
      refine Prod.ext rfl (Prod.ext ?_ rfl)
      funext k
      show rl_q (x + n) (M (b - x - n)).2.1 k = rl_q x (rl_q n (M (b - x - n)).2.1) k
      unfold rl_q
      by_cases h : (M (b - x - n)).2.1 k = 0
      · simp [h]
      · rw [if_neg h, if_neg h, if_neg (by omega)]
        omega
theorem rl_mono {Y : rc_Y} {ω ω' : rc_O} {H : Heap} (hV : rc_V Y ω H) (h : ∀ b, (ω' b).1 ≠ 0 → ω' b = ω b) : rc_V Y ω' H := fun b hb => by
  rw [h b hb]
  exact hV b (by rw [← h b hb]; exact hb)
theorem rl_nw {Y : rc_Y} {ω : rc_O} {z t : Nat} {H : Heap} (hV : rc_V Y (rc_onew ω z t) H) : rc_V Y (rl_o ω z (rl_0 t)) H := rl_mono hV fun b hb => by
  by_cases h1 : b < z
  · unfold rl_o rc_onew rc_os
    rw [if_pos h1, if_neg (by omega)]
  · by_cases h2 : b = z
    · subst h2
      have e := rl_at (ω := ω) (x := b) (L := rl_0 t) 0
      rw [show b + 0 = b from rfl] at e
      rw [e]
      unfold rc_onew rc_os
      rw [if_pos rfl]
      rfl
    · exfalso
      apply hb
      unfold rl_o
      rw [if_neg h1]
      show (rl_0 t (b - z)).1 = 0
      unfold rl_0
      rw [if_neg (by omega)]
theorem rl_on {x k o : Nat} {q : Nat → Nat} (h : q k = o) (ho : o ≠ 0) : rc_on (rl_q x q k) = .ref (x + o) := by
  unfold rl_q
  rw [h, if_neg ho]
  exact rc_on_ne (by omega)
/-- the tables' words on arrays of references -/
def rl_AO (U : State) : Prop := va_AO "RainCellar$Barrel" U ∧ va_AO "RainCellar$Cellar" U ∧ va_AO "RainCellar$Rainfall" U
theorem rl_AO.moved {u U : State} (hvm : u.vm.Alike U.vm) (h : rl_AO u) : rl_AO U := ⟨va_AO.moved hvm h.1, va_AO.moved hvm h.2.1, va_AO.moved hvm h.2.2⟩
def rl_P (Y : rc_Y) (ω : rc_O) (x t : Nat) (av : List Value) : Array Value → State → Prop := va_Pc av (fun U => U.heap.size = x + 1 ∧ rc_V Y (rl_o ω x (rl_0 t)) U.heap ∧ va_K Y.2.1 vwCl (rc_tys Y.2.2.1) U ∧ rc_E Y U U.heap ∧ rl_AO U)
def rl_B (Y : rc_Y) (ω : rc_O) (x : Nat) (M : rl_L) (N : Nat) : Unit → State → Prop := fun _ t => rc_V Y (rl_o ω x M) t.heap ∧ t.heap.size = x + N
theorem rl_blind {Y : rc_Y} {ω : rc_O} {x t : Nat} {av : List Value} : FrameBlind (rl_P Y ω x t av) := by
  intro a U g mk q
  obtain ⟨q0, q1, qW, qK, qE, qA⟩ := q
  refine ⟨q0, q1, qW, va_K.moved (u := U) (U := U.calling g mk a) (Vm.Alike.refl U.vm) qK, rc_E.heap (s := U) (U := U.calling g mk a) (H := U.heap) qE (Vm.Alike.refl U.vm) (fun w hw => ?_) (fun i hi => vk_R.same (u := U) rfl (rc_E_R qE i hi)) (Nat.le_refl _) (fun _ _ _ => rfl), rl_AO.moved (u := U) (U := U.calling g mk a) (Vm.Alike.refl U.vm) qA⟩
  have hwk := (List.mem_filter.mp hw).2
  refine va_Nw.same (u := U) ?_ rfl (rc_E_nw qE w hw)
  cases w <;> first | rfl | cases hwk
section RLR
variable {p : Program} {l : Launch} {e : Env} {R : Room} {s : State} {m : MethodId} {args : Array Value} {below : List Frame} {meth : Method} {c : Code} {H H0 : Heap} {locs : List Loc} {cells slots : Nat} {Q : State → Prop}
variable {cc : ByteArray} {pc : Nat} {ls : Array Slot} {rest : List Value} {Y : rc_Y} {ω : rc_O} {x n j : Nat} {L : rl_L}
theorem rl_pre {x0 t : Nat} (hx0 : Y.1 ≤ x0) (hK : va_K Y.2.1 vwCl (rc_tys Y.2.2.1) s) (hE : rc_E Y s s.heap) (hA : rl_AO s) (hV : rc_V Y (rl_o ω x (rl_0 t)) H) (hz : H.size = x + 1) (hS : va_S (fun q => x0 ≤ q) s.heap H locs) (As : List Value) : PreS s H (rl_P Y ω x t As) As :=
  ⟨rl_blind, fun U hU hW => ⟨rfl, by rw [hU]; exact hz, by rw [hU]; exact hV, va_K.moved hW.alike hK, hE.go hW (by rw [hU]; exact hS.1) (fun q h1 h2 => by rw [hU]; exact hS.2.1 q h1 (fun h3 => h2 (Nat.le_trans hx0 h3))), hA.moved hW.alike⟩⟩
theorem rl_call {mc ms N x0 : Nat} {M : rl_L} {st0 : List Value} {a : Array Value} (hr : va_Run p l e R s m args below meth c H locs cells slots mc ms (F0 m pc ls st0) rest (va_Qv (fun _ : Unit => True) (rl_B Y (rl_o ω x L) (x + n) M N) (fun q => x + n ≤ q) a) (fun q => x + n ≤ q)) (h0 : x0 ≤ x + n) (hS : va_S (fun q => x0 ≤ q) H0 H locs)
    (kk : ∀ (H1 : Heap) (locs1 : List Loc), rc_V Y (rl_o ω x (rl_c L n M)) H1 → H1.size = x + (n + N) → va_S (fun q => x0 ≤ q) H0 H1 locs1 → W p l e R s m args below meth c H1 locs1 (cells + mc) (slots + ms) Q (F0 m (pc + 3) ls rest)) : W p l e R s m args below meth c H locs cells slots Q (F0 m pc ls st0) :=
  va_callv hr hS (fun q _ h => Nat.le_trans h0 h) (fun q h => Nat.le_trans h0 h) fun u t H1 locs1 ht _ _ hB _ _ hS1 => kk H1 locs1 (by rw [← ht, ← rl_ceq]; exact hB.1) (by rw [← ht, hB.2]; omega) hS1
theorem rl_put (hexec : p.tables.exec = Jvm.exec) (hb : c.code = cc) {own ref C : String} {T : u_T} {N ci index : Nat} {Ts : List Cond} (hts : ∀ w ∈ Ts, w.before args s = true) (hin : ∀ w ∈ u_ws C T N, w ∈ Ts) (ty0 : Nat → FieldType) (hty : ∀ k, k < N → parseFieldDescriptor (T k).2.2.1 = some (ty0 k)) (hnm : ∀ a, a < N → ∀ b, b < N → a ≠ b → (T a).2.1 ≠ (T b).2.1) (hown : s.vm.findClass own = some m.cls) (hK : va_K Y.2.1 vwCl (rc_tys Y.2.2.1) s) (hV : rc_V Y (rl_o ω x L) H) (hz : H.size = x + n) (hS0 : va_S (fun q => x ≤ q) H0 H locs) {t : Nat} (ht : (L j).1 = t) (h0 : t ≠ 0) {fs : List Value} (he0 : rc_Cv Y.2.2.1 t (L j).2.2 (rl_q x (L j).2.1) = .inr (ci, fs)) (hc : vwCl[ci]? = some (C, T, N)) (k : Nat) (hk : k < N) (hlink : (Cond.fieldLink own index ref (T k).2.1 (T k).2.2.1).before args s = true) (hsame : ∀ x, s.fieldFound? (T k).1 (T k).2.1 (T k).2.2.1 = some x → s.fieldFound? ref (T k).2.1 (T k).2.2.1 = some x) (hfin : (T k).2.2.2 = false ∨ ((T k).2.2.2 = true ∧ meth.name = "<init>" ∧ (T k).1 = own)) {ty : FieldType} {v : Value} (hd : parseFieldDescriptor (T k).2.2.1 = some ty) (hn : narrow ty v = v) (hfit : fits ty v = true) (hl : k < fs.length) {r' : Nat → Int32} {q' : Nat → Nat}
    (hnew : rc_Cv Y.2.2.1 t r' (rl_q x q') = .inr (ci, fs.set k v)) (hdg : decode cc pc = .ok (.putfield index, 3))
    (kk : ∀ (H1 : Heap) (locs1 : List Loc), rc_V Y (rl_o ω x (rl_s L j ((L j).1, q', r'))) H1 → H1.size = x + n → va_S (fun q => x ≤ q) H0 H1 locs1 → W p l e R s m args below meth c H1 locs1 cells slots Q (F0 m (pc + 3) ls rest)) : W p l e R s m args below meth c H locs cells slots Q (F0 m pc ls (v :: .ref (x + j) :: rest)) := by
  have e := rl_at (ω := ω) (x := x) (L := L) j
  refine rc_Vput hexec hb hts hin ty0 hty hnm hown hK hV hz hS0 (Nat.le_add_right x j) (t := t) (by rw [e]; exact ht) h0 (fs := fs) (by rw [e]; exact he0) hc k hk hlink hsame hfin hd hn hfit hl (r' := r') (q' := rl_q x q') hnew hdg fun ω1 H1 locs1 hω hV1 hz1 hS1 => kk H1 locs1 ?_ hz1 hS1
  subst hω
  rw [e, rl_os] at hV1
  exact hV1
theorem rl_get (hexec : p.tables.exec = Jvm.exec) (hb : c.code = cc) {own ref C : String} {T : u_T} {N ci index : Nat} {Ts : List Cond} (hts : ∀ w ∈ Ts, w.before args s = true) (hin : ∀ w ∈ u_ws C T N, w ∈ Ts) (hown : s.vm.findClass own = some m.cls) (hK : va_K Y.2.1 vwCl (rc_tys Y.2.2.1) s) (hV : rc_V Y (rl_o ω x L) H) {t : Nat} (ht : (L j).1 = t) (h0 : t ≠ 0) {fs : List Value} (he : rc_Cv Y.2.2.1 t (L j).2.2 (rl_q x (L j).2.1) = .inr (ci, fs)) (hc : vwCl[ci]? = some (C, T, N)) (k : Nat) (hk : k < N) (hlink : (Cond.fieldLink own index ref (T k).2.1 (T k).2.2.1).before args s = true) (hsame : ∀ x, s.fieldFound? (T k).1 (T k).2.1 (T k).2.2.1 = some x → s.fieldFound? ref (T k).2.1 (T k).2.2.1 = some x) {v : Value} (hv : fs[k]? = some v) (hdg : decode cc pc = .ok (.getfield index, 3))
    (kk : W p l e R s m args below meth c H locs cells slots Q (F0 m (pc + 3) ls (v :: rest))) : W p l e R s m args below meth c H locs cells slots Q (F0 m pc ls (.ref (x + j) :: rest)) :=
  rc_Vget hexec hb hts hin hown hK hV (t := t) (by rw [rl_at]; exact ht) h0 (fs := fs) (by rw [rl_at]; exact he) hc k hk hlink hsame hv hdg kk
theorem rl_newo (hexec : p.tables.exec = Jvm.exec) (hb : c.code = cc) {own C : String} {T : u_T} {N ci index : Nat} {Ts : List Cond} (hts : ∀ w ∈ Ts, w.before args s = true) (hin : ∀ w ∈ u_ws C T N, w ∈ Ts) (ty : Nat → FieldType) (hty : ∀ k, k < N → parseFieldDescriptor (T k).2.2.1 = some (ty k)) (hown : s.vm.findClass own = some m.cls) (hcl : (Cond.classLink own index C).before args s = true) (hinst : (Cond.instantiable C N).before args s = true) (hini : (Cond.initialized C).before args s = true)
    (hK : va_K Y.2.1 vwCl (rc_tys Y.2.2.1) s) (hV : rc_V Y (rl_o ω x L) H) (hz : H.size = x + n) {x0 : Nat} (hS : va_S (fun q => x0 ≤ q) H0 H locs) (hc : vwCl[ci]? = some (C, T, N)) (t : Nat) {fs : List Value} (he : rc_Cv Y.2.2.1 t (fun _ => 0) (fun _ => 0) = .inr (ci, fs)) (hfs : ∀ j, j < N → defaultValue (ty j) = vp_V fs j) (hcells : cells + 1 ≤ R.cells) (hslots : slots + N ≤ R.slots) (hdg : decode cc pc = .ok (.new index, 3))
    (kk : ∀ (H1 : Heap), rc_V Y (rl_o (rl_o ω x L) (x + n) (rl_0 t)) H1 → H1.size = x + n + 1 → va_S (fun q => x0 ≤ q) H0 H1 locs → W p l e R s m args below meth c H1 locs (cells + 1) (slots + N) Q (F0 m (pc + 3) ls (.ref (x + n) :: rest))) : W p l e R s m args below meth c H locs cells slots Q (F0 m pc ls rest) :=
  rc_Vnew hexec hb hts hin ty hty hown hcl hinst hini hK hV hz hS hc t he hfs hcells hslots hdg fun ω1 H1 hω hV1 hz1 hS1 => kk H1 (by subst hω; exact rl_nw hV1) hz1 hS1
theorem rl_newa (hexec : p.tables.exec = Jvm.exec) (hb : c.code = cc) {atype : ArrayType} (harr : (Cond.arrayClass (newarray.typeOf atype)).before args s = true) {ty : FieldType} (hty : newarray.typeOf atype = ty) (hK : va_K Y.2.1 vwCl (rc_tys Y.2.2.1) s) (hV : rc_V Y (rl_o ω x L) H) (hz : H.size = x + n) (hS : va_S (fun q => x ≤ q) H0 H locs) (t0 : Nat) {cA : ClassId} (ht0 : (rc_tys Y.2.2.1)[t0]? = some (cA, ty)) (hobj : ∀ C, ty ≠ .object C) (t : Nat) {N' : Nat} (he : rc_Cv Y.2.2.1 t (fun _ => 0) (fun _ => 0) = .inl (cA, N', .inl (fun _ => 0))) (hdv : defaultValue ty = .int 0)
    {i : Int32} (hn : ¬ i < 0) (hN : i.toNatClampNeg = N') (hbytes : N' * componentBytes ty ≤ 536870912) (hcells : cells + 1 ≤ R.cells) (hslots : slots + N' ≤ R.slots) (hdg : decode cc pc = .ok (.newarray atype, 2))
    (kk : ∀ (H1 : Heap), rc_V Y (rl_o ω x (rl_n L n t)) H1 → H1.size = x + (n + 1) → va_S (fun q => x ≤ q) H0 H1 locs → W p l e R s m args below meth c H1 locs (cells + 1) (slots + N') Q (F0 m (pc + 2) ls (.ref (x + n) :: rest))) : W p l e R s m args below meth c H locs cells slots Q (F0 m pc ls (.int i :: rest)) :=
  rc_Vnewa hexec hb harr hty hK hV hz hS t0 ht0 hobj t he hdv hn hN hbytes hcells hslots hdg fun ω1 H1 hω hV1 hz1 hS1 => kk H1 (by subst hω; rw [← rl_onew]; exact hV1) (by rw [hz1]; omega) hS1
theorem rl_newq (hexec : p.tables.exec = Jvm.exec) (hb : c.code = cc) {own C : String} {index : Nat} (hown : s.vm.findClass own = some m.cls) (hclink : (Cond.classLink own index C).before args s = true) (hover : va_AO C s) (hK : va_K Y.2.1 vwCl (rc_tys Y.2.2.1) s) (hV : rc_V Y (rl_o ω x L) H) (hz : H.size = x + n) (hS : va_S (fun q => x ≤ q) H0 H locs) (t0 : Nat) {cA : ClassId} (ht0 : (rc_tys Y.2.2.1)[t0]? = some (cA, .object C)) (t : Nat) {N' : Nat} (he : rc_Cv Y.2.2.1 t (fun _ => 0) (fun _ => 0) = .inl (cA, N', .inr (.inr (.inr (.inr (fun _ => none))))))
    {i : Int32} (hn : ¬ i < 0) (hN : i.toNatClampNeg = N') (hbytes : N' * 4 ≤ 536870912) (hcells : cells + 1 ≤ R.cells) (hslots : slots + N' ≤ R.slots) (hdg : decode cc pc = .ok (.anewarray index, 3))
    (kk : ∀ (H1 : Heap), rc_V Y (rl_o ω x (rl_n L n t)) H1 → H1.size = x + (n + 1) → va_S (fun q => x ≤ q) H0 H1 locs → W p l e R s m args below meth c H1 locs (cells + 1) (slots + N') Q (F0 m (pc + 3) ls (.ref (x + n) :: rest))) : W p l e R s m args below meth c H locs cells slots Q (F0 m pc ls (.int i :: rest)) := by
  subst hN
  obtain ⟨kA0, comp0, -, -, -, hnm⟩ := (hK.2 t0 _ ht0).2
  refine W.anew hexec hb hown hclink (va_AO.use hover) rfl hdg rfl hn hbytes hcells hslots fun cA' kA comp f1 f2 f3 f4 => ?_
  have hcA : cA' = cA := Option.some.inj (f1.symm.trans hnm)
  subst hcA
  generalize hH1 : H.push ({ cls := cA', slots := Array.replicate i.toNatClampNeg .null, vm := .none } : Cell) = H1
  have z1 : H1.size = H.size + 1 := by rw [← hH1, Array.size_push]
  have e1 : H1[H.size]? = some (arrV cA' i.toNatClampNeg (fun _ => .null)) := by rw [← hH1, Array.getElem?_push_size, ← arrV_new]
  have o1 : ∀ q : Nat, q < H.size → H1[q]? = H[q]? := fun q hq => by rw [← hH1, Array.getElem?_push, if_neg (Nat.ne_of_lt hq)]
  have hV1 : rc_V Y (rc_onew (rl_o ω x L) H.size t) H1 := rc_Vwr hV (by
    show va_at Y.2.1 vwCl (H.size, rc_Cv Y.2.2.1 t (fun _ => 0) (fun _ => 0)) H1
    rw [he]
    show H1[H.size]? = some (vp_cell _ _)
    rw [vp_cell_q]
    exact e1) (fun q _ h => o1 q h)
  rw [hz] at hV1 ⊢
  refine kk H1 (by rw [← rl_onew]; exact hV1) (by rw [z1, hz]; omega) ⟨Nat.le_trans hS.1 (by omega), fun y h1 h2 => (o1 y (Nat.lt_of_lt_of_le h1 hS.1)).trans (hS.2.1 y h1 h2), hS.2.2⟩
theorem rl_iast (hexec : p.tables.exec = Jvm.exec) (hb : c.code = cc) (hK : va_K Y.2.1 vwCl (rc_tys Y.2.2.1) s) (hV : rc_V Y (rl_o ω x L) H) (hz : H.size = x + n) (hS : va_S (fun q => x ≤ q) H0 H locs) {t : Nat} (ht : (L j).1 = t) (h0 : t ≠ 0) {n' : Nat} (he0 : ∀ (r : Nat → Int32) (q : Nat → Nat), rc_Cv Y.2.2.1 t r q = .inl (Y.2.2.1 0, n', .inl r)) {i v : Int32} {k : Nat} (hin : vp_in i n') (hj : i.toNatClampNeg = k) (hdg : decode cc pc = .ok (.iastore, 1))
    (kk : ∀ (H1 : Heap) (locs1 : List Loc), rc_V Y (rl_o ω x (rl_i L j k v)) H1 → H1.size = x + n → va_S (fun q => x ≤ q) H0 H1 locs1 → W p l e R s m args below meth c H1 locs1 cells slots Q (F0 m (pc + 1) ls rest)) : W p l e R s m args below meth c H locs cells slots Q (F0 m pc ls (.int v :: .int i :: .ref (x + j) :: rest)) :=
  rc_Viast hexec hb hK hV hz hS (Nat.le_add_right x j) (t := t) (by rw [rl_at]; exact ht) h0 he0 hin hj hdg fun ω1 H1 locs1 hω hV1 hz1 hS1 => kk H1 locs1 (by subst hω; rw [← rl_oi]; exact hV1) hz1 hS1
theorem rl_aast (hexec : p.tables.exec = Jvm.exec) (hb : c.code = cc) (hK : va_K Y.2.1 vwCl (rc_tys Y.2.2.1) s) (hV : rc_V Y (rl_o ω x L) H) (hz : H.size = x + n) (hS : va_S (fun q => x ≤ q) H0 H locs) {t : Nat} (ht : (L j).1 = t) (h0 : t ≠ 0) {n' : Nat} {cA : ClassId} {r : vw_C} (he0 : ∀ (r : Nat → Int32) (q : Nat → Nat), rc_Cv Y.2.2.1 t r q = .inl (cA, n', .inr (.inr (.inr (.inr (fun j => rc_oo (q j))))))) (t0 : Nat) (hty : (rc_tys Y.2.2.1)[t0]? = some (cA, .object r.1)) {o tv ci : Nat} (ho : o ≠ 0) (htv : (L o).1 = tv) (htv0 : tv ≠ 0) {vs : List Value} (hev : rc_Cv Y.2.2.1 tv (L o).2.2 (rl_q x (L o).2.1) = .inr (ci, vs)) (hc : vwCl[ci]? = some r) {i : Int32} {k : Nat} (hin : vp_in i n') (hj : i.toNatClampNeg = k) (hdg : decode cc pc = .ok (.aastore, 1))
    (kk : ∀ (H1 : Heap) (locs1 : List Loc), rc_V Y (rl_o ω x (rl_r L j k o)) H1 → H1.size = x + n → va_S (fun q => x ≤ q) H0 H1 locs1 → W p l e R s m args below meth c H1 locs1 cells slots Q (F0 m (pc + 1) ls rest)) : W p l e R s m args below meth c H locs cells slots Q (F0 m pc ls (.ref (x + o) :: .int i :: .ref (x + j) :: rest)) :=
  rc_Vaast hexec hb hK hV hz hS (Nat.le_add_right x j) (t := t) (by rw [rl_at]; exact ht) h0 he0 t0 hty (v := x + o) (by omega) (tv := tv) (by rw [rl_at]; exact htv) htv0 (vs := vs) (by rw [rl_at]; exact hev) hc hin hj hdg fun ω1 H1 locs1 hω hV1 hz1 hS1 => kk H1 locs1 (by subst hω; rw [← rl_or ho]; exact hV1) hz1 hS1
theorem rl_SB (hx0 : Y.1 ≤ x) (hS : va_S (fun q => x ≤ q) s.heap H locs) : va_S (fun q => Y.1 ≤ q) s.heap H locs := ⟨hS.1, fun q h1 h2 => hS.2.1 q h1 (fun h3 => h2 (Nat.le_trans hx0 h3)), fun l h => Nat.le_trans hx0 (hS.2.2 l h)⟩
theorem rl_vret {M : rl_L} {N mc ms : Nat} (hx : p.tables.exec = Jvm.exec) (hb : c.code = cc) (hr : meth.sig.returnType = none) (hlocks : meth.locks = false) (hV : rc_V Y (rl_o ω x M) H) (hz : H.size = x + N) (hS : va_S (fun q => x ≤ q) s.heap H locs) (hdg : decode cc pc = .ok (.return_, 1)) : W p l e R s m args below meth c H locs cells slots (MQ below (va_Qv (fun _ : Unit => True) (rl_B Y ω x M N) (fun q => x ≤ q)) args s cells slots (fun q => x ≤ q)) (F0 m pc ls []) :=
  W.vret hx hb hr (fun t ht _ => ⟨⟨(), rfl, trivial, by rw [ht]; exact hV, by rw [ht]; exact hz⟩, hS.F ht⟩) hS.2.2 hdg hlocks
end RLR
