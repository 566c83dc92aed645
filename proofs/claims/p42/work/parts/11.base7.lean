/-! WORLDS UNDER CONSTRUCTION: a reference 0 is null -/
abbrev rc_O := Nat → Nat × (Nat → Nat) × (Nat → Int32)
def rc_on (n : Nat) : Value := if n = 0 then .null else .ref n
def rc_oo (n : Nat) : Option Nat := if n = 0 then none else some n
theorem rc_on_ne {n : Nat} (h : n ≠ 0) : rc_on n = .ref n := if_neg h
theorem rc_oo_ne {n : Nat} (h : n ≠ 0) : rc_oo n = some n := if_neg h
def rc_Cv (cy : Nat → ClassId) (t : Nat) (r : Nat → Int32) (q : Nat → Nat) : va_E := match t with
  | 1 => .inr (4, [.int (r 0), .int (r 1), .int (r 2), .int (r 3), .int (r 4), .int (r 5)])
  | 2 => .inr (5, [rc_on (q 0), rc_on (q 1), .int (r 2), rc_on (q 3), rc_on (q 4), .int (r 5), .int (r 6), .int (r 7), .int (r 8), .int (r 9), .int (r 10), .int (r 11), .int (r 12), .int (r 13)])
  | 3 => .inr (6, [rc_on (q 0), .int (r 1), .int (r 2)])
  | 4 => .inr (7, [rc_on (q 0), rc_on (q 1), .int (r 2)])
  | 5 => .inr (8, [.int (r 0), .int (r 1), .int (r 2)])
  | 6 => .inr (9, [.int (r 0), .int (r 1), .int (r 2)])
  | 7 => .inr (10, [rc_on (q 0), .int (r 1), rc_on (q 2), rc_on (q 3), .int (r 4), .int (r 5), .int (r 6)])
  | 8 => .inr (11, [rc_on (q 0), rc_on (q 1)])
  | 9 => .inr (12, [rc_on (q 0), rc_on (q 1), rc_on (q 2), rc_on (q 3), .int (r 4), rc_on (q 5), rc_on (q 6), .int (r 7), rc_on (q 8)])
  | 11 => .inr (1, [rc_on (q 0), .int (r 1), .int (r 2), .int (r 3)])
  | 12 => .inr (0, [rc_on (q 0), .int (r 1), .int (r 2), .int (r 3)])
  | 13 => .inr (0, [rc_on (q 0), .int (r 1), .int (r 2), .int (r 3)])
  | 14 => .inr (0, [rc_on (q 0), .int (r 1), .int (r 2), .int (r 3)])
  | 15 => .inr (0, [rc_on (q 0), .int (r 1), .int (r 2), .int (r 3)])
  | 20 => .inl (cy 0, 4, .inl r)
  | 21 => .inl (cy 2, 4, .inl r)
  | 22 => .inl (cy 1, 60, .inl r)
  | 23 => .inl (cy 0, 180, .inl r)
  | 24 => .inl (cy 3, 16, .inl r)
  | 25 => .inl (cy 4, 8, .inr (.inr (.inr (.inr (fun j => rc_oo (q j))))))
  | 26 => .inl (cy 5, 9, .inr (.inr (.inr (.inr (fun j => rc_oo (q j))))))
  | 27 => .inl (cy 6, 12, .inr (.inr (.inr (.inr (fun j => rc_oo (q j))))))
  | 32 => .inl (cy 3, 2, .inl r)
  | 33 => .inl (cy 3, 4, .inl r)
  | 34 => .inl (cy 3, 6, .inl r)
  | _ => .inl (cy 3, 8, .inl r)
def rc_V (Y : rc_Y) (ω : rc_O) (H : Heap) : Prop := ∀ a, (ω a).1 ≠ 0 → va_at Y.2.1 vwCl (a, rc_Cv Y.2.2.1 (ω a).1 (ω a).2.2 (ω a).2.1) H
def rc_os (ω : rc_O) (a : Nat) (c : Nat × (Nat → Nat) × (Nat → Int32)) : rc_O := fun b => if b = a then c else ω b
def rc_oi (ω : rc_O) (a k : Nat) (x : Int32) : rc_O := rc_os ω a ((ω a).1, (ω a).2.1, upd (ω a).2.2 k x)
def rc_or (ω : rc_O) (a k v : Nat) : rc_O := rc_os ω a ((ω a).1, (fun j => if j = k then v else (ω a).2.1 j), (ω a).2.2)
def rc_onew (ω : rc_O) (a t : Nat) : rc_O := rc_os ω a (t, (fun _ => 0), (fun _ => 0))
theorem rc_Vone {Y : rc_Y} {ω : rc_O} {H : Heap} {a t : Nat} (hV : rc_V Y ω H) (ht : (ω a).1 = t) (h0 : t ≠ 0) {e : va_E} (he : rc_Cv Y.2.2.1 t (ω a).2.2 (ω a).2.1 = e) : va_P Y.2.1 vwCl [(a, e)] H := by
  intro k q hk
  have hz : k < 1 := (List.getElem?_eq_some_iff.mp hk).1
  rw [show k = 0 by omega] at hk
  cases hk
  rw [← he, ← ht]
  exact hV a (by rw [ht]; exact h0)
theorem rc_Vwr {Y : rc_Y} {ω : rc_O} {H H1 : Heap} {a : Nat} {c : Nat × (Nat → Nat) × (Nat → Int32)} (hV : rc_V Y ω H) (hn : va_at Y.2.1 vwCl (a, rc_Cv Y.2.2.1 c.1 c.2.2 c.2.1) H1) (oq : ∀ q : Nat, q ≠ a → q < H.size → H1[q]? = H[q]?) : rc_V Y (rc_os ω a c) H1 := by
  intro b hb
  by_cases h : b = a
  · subst h
    simp only [rc_os, if_true]
    exact hn
  · simp only [rc_os, if_neg h] at hb ⊢
    exact (hV b hb).kept (oq b h (hV b hb).lt)
def rc_Pv (Y : rc_Y) (ω : rc_O) (sz : Nat) (av : List Value) : Array Value → State → Prop := va_Pc av (fun U => U.heap.size = sz ∧ rc_V Y ω U.heap ∧ va_K Y.2.1 vwCl (rc_tys Y.2.2.1) U ∧ rc_E Y U U.heap)
theorem rc_blindv {Y : rc_Y} {ω : rc_O} {sz : Nat} {av : List Value} : FrameBlind (rc_Pv Y ω sz av) := by
  intro a U g mk q
  obtain ⟨q0, q1, qW, qK, qE⟩ := q
  refine ⟨q0, q1, qW, va_K.moved (u := U) (U := U.calling g mk a) (Vm.Alike.refl U.vm) qK, rc_E.heap (s := U) (U := U.calling g mk a) (H := U.heap) qE (Vm.Alike.refl U.vm) (fun w hw => ?_) (fun i hi => vk_R.same (u := U) rfl (rc_E_R qE i hi)) (Nat.le_refl _) (fun _ _ _ => rfl)⟩
  have hwk := (List.mem_filter.mp hw).2
  refine va_Nw.same (u := U) ?_ rfl (rc_E_nw qE w hw)
  cases w <;> first | rfl | cases hwk
section RCV
variable {p : Program} {l : Launch} {e : Env} {R : Room} {s : State} {m : MethodId} {args : Array Value} {below : List Frame} {meth : Method} {c : Code} {H H0 : Heap} {locs : List Loc} {cells slots : Nat} {Q : State → Prop}
variable {cc : ByteArray} {pc : Nat} {ls : Array Slot} {rest : List Value} {Y : rc_Y} {ω : rc_O} {A : Nat → Prop} {a z : Nat}
theorem rc_Vput (hexec : p.tables.exec = Jvm.exec) (hb : c.code = cc) {own ref C : String} {T : u_T} {N ci index : Nat} {Ts : List Cond} (hts : ∀ w ∈ Ts, w.before args s = true) (hin : ∀ w ∈ u_ws C T N, w ∈ Ts) (ty0 : Nat → FieldType) (hty : ∀ k, k < N → parseFieldDescriptor (T k).2.2.1 = some (ty0 k)) (hnm : ∀ a, a < N → ∀ b, b < N → a ≠ b → (T a).2.1 ≠ (T b).2.1) (hown : s.vm.findClass own = some m.cls) (hK : va_K Y.2.1 vwCl (rc_tys Y.2.2.1) s) (hV : rc_V Y ω H) (hz : H.size = z) (hS0 : va_S A H0 H locs) (hA : A a) {t : Nat} (ht : (ω a).1 = t) (h0 : t ≠ 0) {fs : List Value} (he0 : rc_Cv Y.2.2.1 t (ω a).2.2 (ω a).2.1 = .inr (ci, fs)) (hc : vwCl[ci]? = some (C, T, N)) (k : Nat) (hk : k < N) (hlink : (Cond.fieldLink own index ref (T k).2.1 (T k).2.2.1).before args s = true) (hsame : ∀ x, s.fieldFound? (T k).1 (T k).2.1 (T k).2.2.1 = some x → s.fieldFound? ref (T k).2.1 (T k).2.2.1 = some x) (hfin : (T k).2.2.2 = false ∨ ((T k).2.2.2 = true ∧ meth.name = "<init>" ∧ (T k).1 = own)) {ty : FieldType} {v : Value} (hd : parseFieldDescriptor (T k).2.2.1 = some ty) (hn : narrow ty v = v) (hfit : fits ty v = true) (hl : k < fs.length) {r' : Nat → Int32} {q' : Nat → Nat}
    (hnew : rc_Cv Y.2.2.1 t r' q' = .inr (ci, fs.set k v)) (hdg : decode cc pc = .ok (.putfield index, 3))
    (kk : ∀ (ω1 : rc_O) (H1 : Heap) (locs1 : List Loc), ω1 = rc_os ω a ((ω a).1, q', r') → rc_V Y ω1 H1 → H1.size = z → va_S A H0 H1 locs1 → W p l e R s m args below meth c H1 locs1 cells slots Q (F0 m (pc + 3) ls rest)) : W p l e R s m args below meth c H locs cells slots Q (F0 m pc ls (v :: .ref a :: rest)) := by
  have hap := va_apart (own := own) hts hin ty0 hty hnm hK hc
  obtain ⟨r, h1, cell, q1, q2, q3, q4⟩ := rc_Vone hV ht h0 he0 0 _ rfl
  have hr : r = (C, T, N) := Option.some.inj (h1.symm.trans hc)
  subst hr
  obtain ⟨hS, hfc, kC, hkC, hkind⟩ := hK.1 ci _ hc
  obtain ⟨cf, kf, fi, f, hi, hsl⟩ := hS k hk
  have hlay := hts _ (hin _ (u_in_lay hk))
  unfold u_lay at hlay
  have hst := (u_facts hfc hkC (u_lays hts hin hk) hi).1
  have done : ∀ H' : Heap, H'[a]? = some (cell.setSlot f.slot v) → H'.size = H.size → (∀ q : Nat, q ≠ a → H'[q]? = H[q]?) → W p l e R s m args below meth c H' (locs ++ [⟨a, f.slot⟩]) cells slots Q { F0 m pc ls (v :: .ref a :: rest) with pc := (F0 m pc ls (v :: .ref a :: rest)).pc + 3, stack := rest } := by
    intro H' e1 e2 e3
    rw [hsl] at e1 ⊢
    refine kk (rc_os ω a ((ω a).1, q', r')) H' _ rfl (rc_Vwr hV ?_ (fun q h _ => e3 q h)) (e2.trans hz) (hS0.put e2 e3 hA)
    show va_at Y.2.1 vwCl (a, rc_Cv Y.2.2.1 (ω a).1 r' q') H'
    rw [ht, hnew]
    exact ⟨_, hc, t_OB.to (V := updV (vp_V fs) k v) ⟨_, e1, q2, q3, t_set q4 hap hk v⟩ (fun j _ => vp_updV_set hl v j)⟩
  rcases hfin with hfin | ⟨hfin, hin2, hdecl⟩
  · rw [if_neg (by rw [hfin]; decide)] at hlay
    have h6 := u_store hfc hkC hkind hlay hi hd hn hfit
    exact W.putK hexec hb (f := f) ⟨hown, hlink, ⟨_, _, _, hsame _ hi⟩, hst⟩ (by rw [q2]; exact h6) q1 q3 (by rw [hsl]; exact k2_hasslot (q4 k hk)) rfl rfl hdg done
  · rw [if_pos hfin] at hlay
    have hcf : m.cls = cf := by
      obtain ⟨_, _, c', _, _, _, -, -, hf', -, -, -, hown2, -⟩ := Cond.laysFinal_spec hlay
      have e1 : c' = cf := by have := hi.symm.trans hf'; simp at this; exact this.1.symm
      rw [hdecl] at hown2
      rw [← e1]; exact Option.some.inj (hown.symm.trans hown2)
    have h6 := u_fits hfc hkC hkind (Or.inr hlay) hi hd hn hfit
    exact W.putFinK hexec hb hown hlink (hsame _ hi) hst hcf hin2 (by rw [q2]; exact h6) q1 q3 (by rw [hsl]; exact k2_hasslot (q4 k hk)) rfl rfl hdg done
theorem rc_Vnew (hexec : p.tables.exec = Jvm.exec) (hb : c.code = cc) {own C : String} {T : u_T} {N ci index : Nat} {Ts : List Cond} (hts : ∀ w ∈ Ts, w.before args s = true) (hin : ∀ w ∈ u_ws C T N, w ∈ Ts) (ty : Nat → FieldType) (hty : ∀ k, k < N → parseFieldDescriptor (T k).2.2.1 = some (ty k)) (hown : s.vm.findClass own = some m.cls) (hcl : (Cond.classLink own index C).before args s = true) (hinst : (Cond.instantiable C N).before args s = true) (hini : (Cond.initialized C).before args s = true)
    (hK : va_K Y.2.1 vwCl (rc_tys Y.2.2.1) s) (hV : rc_V Y ω H) (hz : H.size = z) (hS : va_S A H0 H locs) (hc : vwCl[ci]? = some (C, T, N)) (t : Nat) {fs : List Value} (he : rc_Cv Y.2.2.1 t (fun _ => 0) (fun _ => 0) = .inr (ci, fs)) (hfs : ∀ j, j < N → defaultValue (ty j) = vp_V fs j) (hcells : cells + 1 ≤ R.cells) (hslots : slots + N ≤ R.slots) (hdg : decode cc pc = .ok (.new index, 3))
    (kk : ∀ (ω1 : rc_O) (H1 : Heap), ω1 = rc_onew ω z t → rc_V Y ω1 H1 → H1.size = z + 1 → va_S A H0 H1 locs → W p l e R s m args below meth c H1 locs (cells + 1) (slots + N) Q (F0 m (pc + 3) ls (.ref z :: rest))) : W p l e R s m args below meth c H locs cells slots Q (F0 m pc ls rest) := by
  subst hz
  have hKn := hK.1 ci _ hc
  refine W.newcK hexec hb hown hcl hinst hini rfl hdg hcells hslots hKn.2.1 rfl fun H1 kC hkC e1 z1 o1 => ?_
  refine kk _ H1 rfl (rc_Vwr hV ?_ (fun q _ h => o1 q h)) z1 ⟨Nat.le_trans hS.1 (by omega), fun x h1 h2 => (o1 x (Nat.lt_of_lt_of_le h1 hS.1)).trans (hS.2.1 x h1 h2), hS.2.2⟩
  show va_at Y.2.1 vwCl (H.size, rc_Cv Y.2.2.1 t (fun _ => 0) (fun _ => 0)) H1
  rw [he]
  exact ⟨_, hc, (u_born ty hts hin hKn hkC e1 hty).to hfs⟩
theorem rc_Vnewa (hexec : p.tables.exec = Jvm.exec) (hb : c.code = cc) {atype : ArrayType} (harr : (Cond.arrayClass (newarray.typeOf atype)).before args s = true) {ty : FieldType} (hty : newarray.typeOf atype = ty) (hK : va_K Y.2.1 vwCl (rc_tys Y.2.2.1) s) (hV : rc_V Y ω H) (hz : H.size = z) (hS : va_S A H0 H locs) (t0 : Nat) {cA : ClassId} (ht0 : (rc_tys Y.2.2.1)[t0]? = some (cA, ty)) (hobj : ∀ C, ty ≠ .object C) (t : Nat) {N' : Nat} (he : rc_Cv Y.2.2.1 t (fun _ => 0) (fun _ => 0) = .inl (cA, N', .inl (fun _ => 0))) (hdv : defaultValue ty = .int 0)
    {n : Int32} (hn : ¬ n < 0) (hN : n.toNatClampNeg = N') (hbytes : N' * componentBytes ty ≤ 536870912) (hcells : cells + 1 ≤ R.cells) (hslots : slots + N' ≤ R.slots) (hdg : decode cc pc = .ok (.newarray atype, 2))
    (kk : ∀ (ω1 : rc_O) (H1 : Heap), ω1 = rc_onew ω z t → rc_V Y ω1 H1 → H1.size = z + 1 → va_S A H0 H1 locs → W p l e R s m args below meth c H1 locs (cells + 1) (slots + N') Q (F0 m (pc + 2) ls (.ref z :: rest))) : W p l e R s m args below meth c H locs cells slots Q (F0 m pc ls (.int n :: rest)) := by
  subst hty
  subst hz
  refine va_newaK hexec hb harr rfl hdg rfl hn hN hbytes hcells hslots rfl fun H1 cA' e1 z1 o1 hAr hNm => ?_
  have hRA := (hK.2 t0 _ ht0).2
  have hcA : cA' = cA := by
    refine Option.some.inj (hNm.symm.trans ?_)
    cases atype <;> exact hRA
  subst hcA
  refine kk _ H1 rfl (rc_Vwr hV ?_ (fun q _ h => o1 q h)) z1 ⟨Nat.le_trans hS.1 (by omega), fun x h1 h2 => (o1 x (Nat.lt_of_lt_of_le h1 hS.1)).trans (hS.2.1 x h1 h2), hS.2.2⟩
  show va_at Y.2.1 vwCl (H.size, rc_Cv Y.2.2.1 t (fun _ => 0) (fun _ => 0)) H1
  rw [he]
  show H1[H.size]? = some (vp_cell _ _)
  rw [e1, hdv, vp_cell_i]
theorem rc_Vget (hexec : p.tables.exec = Jvm.exec) (hb : c.code = cc) {own ref C : String} {T : u_T} {N ci index : Nat} {Ts : List Cond} (hts : ∀ w ∈ Ts, w.before args s = true) (hin : ∀ w ∈ u_ws C T N, w ∈ Ts) (hown : s.vm.findClass own = some m.cls) (hK : va_K Y.2.1 vwCl (rc_tys Y.2.2.1) s) (hV : rc_V Y ω H) {t : Nat} (ht : (ω a).1 = t) (h0 : t ≠ 0) {fs : List Value} (he : rc_Cv Y.2.2.1 t (ω a).2.2 (ω a).2.1 = .inr (ci, fs)) (hc : vwCl[ci]? = some (C, T, N)) (k : Nat) (hk : k < N) (hlink : (Cond.fieldLink own index ref (T k).2.1 (T k).2.2.1).before args s = true) (hsame : ∀ x, s.fieldFound? (T k).1 (T k).2.1 (T k).2.2.1 = some x → s.fieldFound? ref (T k).2.1 (T k).2.2.1 = some x) {v : Value} (hv : fs[k]? = some v) (hdg : decode cc pc = .ok (.getfield index, 3))
    (kk : W p l e R s m args below meth c H locs cells slots Q (F0 m (pc + 3) ls (v :: rest))) : W p l e R s m args below meth c H locs cells slots Q (F0 m pc ls (.ref a :: rest)) :=
  va_get hexec hb hts hin hown hK (rc_Vone hV ht h0 he) 0 rfl hc k hk hlink hsame hv hdg kk
theorem rc_Viast (hexec : p.tables.exec = Jvm.exec) (hb : c.code = cc) (hK : va_K Y.2.1 vwCl (rc_tys Y.2.2.1) s) (hV : rc_V Y ω H) (hz : H.size = z) (hS : va_S A H0 H locs) (hA : A a) {t : Nat} (ht : (ω a).1 = t) (h0 : t ≠ 0) {n : Nat} (he0 : ∀ (r : Nat → Int32) (q : Nat → Nat), rc_Cv Y.2.2.1 t r q = .inl (Y.2.2.1 0, n, .inl r)) {i x : Int32} {j : Nat} (hin : vp_in i n) (hj : i.toNatClampNeg = j) (hdg : decode cc pc = .ok (.iastore, 1))
    (kk : ∀ (ω1 : rc_O) (H1 : Heap) (locs1 : List Loc), ω1 = rc_oi ω a j x → rc_V Y ω1 H1 → H1.size = z → va_S A H0 H1 locs1 → W p l e R s m args below meth c H1 locs1 cells slots Q (F0 m (pc + 1) ls rest)) : W p l e R s m args below meth c H locs cells slots Q (F0 m pc ls (.int x :: .int i :: .ref a :: rest)) := by
  subst hj
  have hP := rc_Vone hV ht h0 (he0 _ _) 0 _ rfl
  refine W.iast hexec hb hP ((hK.2 0 _ rfl).1 n (fun j => .int ((ω a).2.2 j))) (fun q => by cases q) (by show ¬ (i < 0 ∨ (arrV _ _ _).slots.size ≤ _); rw [arrV_size]; exact hin) rfl rfl hdg fun H1 e z' oq => ?_
  refine kk _ H1 _ rfl (rc_Vwr hV ?_ (fun q h _ => oq q h)) (z'.trans hz) (hS.put z' oq hA)
  show va_at Y.2.1 vwCl (a, rc_Cv Y.2.2.1 (ω a).1 (upd (ω a).2.2 i.toNatClampNeg x) (ω a).2.1) H1
  rw [ht, he0]
  show H1[a]? = some (vp_cell _ _)
  rw [e]
  rw [vp_cell_i, vp_cell_i, arrV_store]
  congr 2
  funext q
  by_cases hq : q = i.toNatClampNeg
  · subst hq
    simp [updV, upd]
  · simp [updV, upd, hq]
theorem rc_Vaast (hexec : p.tables.exec = Jvm.exec) (hb : c.code = cc) (hK : va_K Y.2.1 vwCl (rc_tys Y.2.2.1) s) (hV : rc_V Y ω H) (hz : H.size = z) (hS : va_S A H0 H locs) (hA : A a) {t : Nat} (ht : (ω a).1 = t) (h0 : t ≠ 0) {n : Nat} {cA : ClassId} {r : vw_C} (he0 : ∀ (r : Nat → Int32) (q : Nat → Nat), rc_Cv Y.2.2.1 t r q = .inl (cA, n, .inr (.inr (.inr (.inr (fun j => rc_oo (q j))))))) (t0 : Nat) (hty : (rc_tys Y.2.2.1)[t0]? = some (cA, .object r.1)) {v tv ci : Nat} (hv0 : v ≠ 0) (htv : (ω v).1 = tv) (htv0 : tv ≠ 0) {vs : List Value} (hev : rc_Cv Y.2.2.1 tv (ω v).2.2 (ω v).2.1 = .inr (ci, vs)) (hc : vwCl[ci]? = some r) {i : Int32} {j : Nat} (hin : vp_in i n) (hj : i.toNatClampNeg = j) (hdg : decode cc pc = .ok (.aastore, 1))
    (kk : ∀ (ω1 : rc_O) (H1 : Heap) (locs1 : List Loc), ω1 = rc_or ω a j v → rc_V Y ω1 H1 → H1.size = z → va_S A H0 H1 locs1 → W p l e R s m args below meth c H1 locs1 cells slots Q (F0 m (pc + 1) ls rest)) : W p l e R s m args below meth c H locs cells slots Q (F0 m pc ls (.ref v :: .int i :: .ref a :: rest)) := by
  subst hj
  have hP := rc_Vone hV ht h0 (he0 _ _) 0 _ rfl
  have hlt : i.toNatClampNeg < n := Nat.not_le.mp fun q => hin (Or.inr q)
  have hi0 : ¬ i < 0 := fun q => hin (Or.inl q)
  obtain ⟨r', hr', cellV, g1, g2, g3, -⟩ := rc_Vone hV htv htv0 hev 0 _ rfl
  have hcls := (hK.1 ci r hc).2
  obtain ⟨kA, comp, k1, k2, k3, -⟩ := (hK.2 t0 _ hty).2
  have hcomp : comp = Y.2.1.1 ci := Option.some.inj (k3.symm.trans hcls.1)
  subst hcomp
  obtain ⟨kC, hkC, -⟩ := hcls.2
  refine W.aast hexec hb hP (fun q h => by cases h) (fun h => by cases h) k1 k2 rfl hkC ⟨hi0, by show _ < (arrV _ _ _).slots.size; rw [arrV_size]; exact hlt⟩ g1 (fun q h => by rw [g3] at h; cases h) (by rw [g2]; exact hkC) (by rw [g2]; exact va_assign hcls) rfl rfl hdg fun H1 e z' oq => ?_
  refine kk _ H1 _ rfl (rc_Vwr hV ?_ (fun q h _ => oq q h)) (z'.trans hz) (hS.put z' oq hA)
  show va_at Y.2.1 vwCl (a, rc_Cv Y.2.2.1 (ω a).1 (ω a).2.2 (fun j => if j = i.toNatClampNeg then v else (ω a).2.1 j)) H1
  rw [ht, he0]
  show H1[a]? = some (vp_cell _ _)
  rw [e]
  rw [vp_cell_q, vp_cell_q, arrV_store]
  congr 2
  funext q
  by_cases hq : q = i.toNatClampNeg
  · subst hq
    simp [updV, va_rf, rc_oo, hv0]
  · simp [updV, hq]
end RCV
