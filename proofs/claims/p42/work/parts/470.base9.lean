/-! COPYING BYTES into an array of our world; new cells beside our world -/
def rc_cpk (f : Nat → Int32) (sp dp n : Int32) (n0 n1 : Nat) : Bool := !(decide (sp < 0)) && (!(decide (dp < 0)) && (!(decide (n < 0)) && (decide (sp.toNatClampNeg + n.toNatClampNeg ≤ n0) && (decide (dp.toNatClampNeg + n.toNatClampNeg ≤ n1) && (List.range n.toNatClampNeg).all (fun i => fits .byte (.int (f (sp.toNatClampNeg + i))))))))
theorem rc_cpkI {f : Nat → Int32} {sp dp n : Int32} {n0 n1 : Nat} (h : rc_cpk f sp dp n n0 n1 = true) : ¬ sp < 0 ∧ ¬ dp < 0 ∧ ¬ n < 0 ∧ sp.toNatClampNeg + n.toNatClampNeg ≤ n0 ∧ dp.toNatClampNeg + n.toNatClampNeg ≤ n1 ∧ ∀ i, i < n.toNatClampNeg → fits .byte (.int (f (sp.toNatClampNeg + i))) = true := by
  unfold rc_cpk at h
  simp only [Bool.and_eq_true, Bool.not_eq_true', decide_eq_false_iff_not, decide_eq_true_eq] at h
  obtain ⟨h1, h2, h3, h4, h5, h6⟩ := h
  exact ⟨h1, h2, h3, h4, h5, fun i hi => List.all_eq_true.mp h6 i (List.mem_range.mpr hi)⟩
section RCC
variable {p : Program} {l : Launch} {e : Env} {R : Room} {s : State} {m : MethodId} {args : Array Value} {below : List Frame} {meth : Method} {c : Code} {H : Heap} {locs : List Loc} {cells slots : Nat} {Q : State → Prop}
variable {cc : ByteArray} {pc : Nat} {ls : Array Slot} {rest : List Value} {Y : rc_Y} {sh : Nat → Nat} {rf : rc_F} {σ : rc_S} {a : Nat}
theorem rc_nn {z : Int32} (h : ¬ z < 0) : z.toInt = (z.toNatClampNeg : Int) := (toNatClampNeg_of_not_neg32 z h).symm
theorem rc_copyb (hexec : p.tables.exec = Jvm.exec) (hb : c.code = cc) (hml : c.maxLocals = ls.size) {own : String} {index : Nat} (hown : s.vm.findClass own = some m.cls) (hlink : (Cond.methodLink own index arraycopyName).before args s = true) (hnat : (Cond.native arraycopyName).before args s = true) (hstat : (Cond.static arraycopyName).before args s = true) (hini : (Cond.initialized "java/lang/System").before args s = true)
    (hK : va_K Y.2.1 vwCl (rc_tys Y.2.2.1) s) (hW : rc_W Y sh rf σ H) {sz : Nat} {H0 : Heap} (hS : va_S (rc_A sh sz) H0 H locs) {src n0 : Nat} {f : Nat → Int32} {scr : Cell} (hs1 : H[src]? = some scr) (hs2 : s.isArrayOf scr .byte) (hs3 : scr.vm ≠ .unknown) (hs4 : n0 ≤ scr.slots.size) (hs5 : ∀ j, j < n0 → scr.slots[j]? = some (.int (f j)))
    {t n1 : Nat} (ht : sh a = t) (h0 : t ≠ 0) (he0 : ∀ r : Nat → Int32, rc_C Y.2.2.1 t r (rf a) = .inl (Y.2.2.1 3, n1, .inl r)) {sp dp n : Int32} (hc : rc_cpk f sp dp n n0 n1 = true)
    (hframes : 1 ≤ R.frames) (hlocals : (rest.map fun v => v.category).sum + (nativeFrameWords "java/lang/System" "arraycopy" 5 + 11) ≤ R.locals) (hdg : decode cc pc = .ok (.invokestatic index, 3))
    (kk : ∀ (σ1 : rc_S) (H1 : Heap) (locs1 : List Loc), σ1 = rc_row σ a (va_cpy f (σ a) sp.toNatClampNeg dp.toNatClampNeg n.toNatClampNeg) → rc_W Y sh rf σ1 H1 → va_S (rc_A sh sz) H0 H1 locs1 → W p l e R s m args below meth c H1 locs1 cells slots Q (F0 m (pc + 3) ls rest)) : W p l e R s m args below meth c H locs cells slots Q (F0 m pc ls (.int n :: .int dp :: .ref a :: .int sp :: .ref src :: rest)) := by
  obtain ⟨h1, h2, h3, h4, h5, hfit⟩ := rc_cpkI hc
  intro T hT X
  have hc1 : H[a]? = some (vp_cell (Y.2.2.1 3) (n1, .inl (σ a))) := rc_one hW ht h0 (he0 (σ a)) 0 _ rfl
  obtain ⟨hs6, k0, hk0, cm0, hkk0⟩ := hs2
  obtain ⟨-, k1, hk1, cm1, hkk1⟩ := (hK.2 3 _ rfl).1 n1 (fun j => .int (σ a j))
  obtain ⟨vm', X', step⟩ := X.arraycopy hexec hown hlink hnat hstat hini (src := src) (dst := a) (cs := scr) (cd := vp_cell (Y.2.2.1 3) (n1, .inl (σ a))) (srcPos := sp) (destPos := dp) (n := n) (by rw [hT]; exact hs1) (by rw [hT]; exact hc1)
    hs6 (fun _ h => by cases h) hs3 (fun h => by cases h) hk0 hk1 hkk0 hkk1 (by simp [refKind]) h1 h2 h3
    (by rw [rc_nn h1, rc_nn h3]; omega)
    (by rw [rc_nn h2, rc_nn h3]; show ¬ _ > ((arrV (Y.2.2.1 3) n1 (fun j => .int (σ a j))).slots.size : Int); rw [arrV_size]; omega)
    (fun _ _ i hi => by
      have ev : scr.slots.getD (sp.toNatClampNeg + i) .null = .int (f (sp.toNatClampNeg + i)) := by
        rw [Array.getD_eq_getD_getElem?, hs5 _ (by omega)]
        rfl
      rw [ev]
      exact ⟨hfit i hi, trivial⟩)
    (g := F0 m pc ls (.int n :: .int dp :: .ref a :: .int sp :: .ref src :: rest)) rfl (by rw [hml]) (rest := rest) rfl (by rw [hb]; exact hdg) hframes (by show 2 * 0 + _ + _ ≤ _; omega)
  have e1 : copied scr (vp_cell (Y.2.2.1 3) (n1, .inl (σ a))) sp dp n = vp_cell (Y.2.2.1 3) (n1, .inl (va_cpy f (σ a) sp.toNatClampNeg dp.toNatClampNeg n.toNatClampNeg)) := va_copiedX (fun z => .int z) scr (Y.2.2.1 3) f (σ a) hs5 h4
  rw [e1] at X' step
  have hlt : a < H.size := (Array.getElem?_eq_some_iff.mp hc1).1
  have hAa : rc_A sh sz a := Or.inl (by rw [ht]; exact h0)
  have eh : ((T.setVm vm').setCell a (vp_cell (Y.2.2.1 3) (n1, .inl (va_cpy f (σ a) sp.toNatClampNeg dp.toNatClampNeg n.toNatClampNeg)))).heap = H.setIfInBounds a (vp_cell (Y.2.2.1 3) (n1, .inl (va_cpy f (σ a) sp.toNatClampNeg dp.toNatClampNeg n.toNatClampNeg))) := by rw [← hT]; rfl
  have oq : ∀ q : Nat, q ≠ a → (H.setIfInBounds a (vp_cell (Y.2.2.1 3) (n1, .inl (va_cpy f (σ a) sp.toNatClampNeg dp.toNatClampNeg n.toNatClampNeg))))[q]? = H[q]? := fun q hq => by simp [Array.getElem?_setIfInBounds, Ne.symm hq]
  have hW1 : rc_W Y sh rf (rc_row σ a (va_cpy f (σ a) sp.toNatClampNeg dp.toNatClampNeg n.toNatClampNeg)) (H.setIfInBounds a (vp_cell (Y.2.2.1 3) (n1, .inl (va_cpy f (σ a) sp.toNatClampNeg dp.toNatClampNeg n.toNatClampNeg)))) := by
    refine rc_wr hW ht ?_ oq
    rw [he0]
    show (H.setIfInBounds a _)[a]? = some _
    simp [Array.getElem?_setIfInBounds, hlt]
  obtain ⟨t', a1, b1⟩ := kk _ _ _ rfl hW1 ⟨by simp; exact hS.1, fun q g1 g2 => by
      rw [oq q (fun e => g2 (by rw [e]; exact hAa))]
      exact hS.2.1 q g1 g2, fun q hq => by
      rcases List.mem_append.mp hq with h | h
      · exact hS.2.2 q h
      · obtain ⟨z, -, hz⟩ := List.mem_map.mp h
        rw [← hz]
        exact hAa⟩ _ eh X'
  exact ⟨t', step t' a1, b1⟩
/-- from a text's constant bytes -/
theorem rc_copyc (hexec : p.tables.exec = Jvm.exec) (hb : c.code = cc) (hml : c.maxLocals = ls.size) {own : String} {index : Nat} (hown : s.vm.findClass own = some m.cls) (hlink : (Cond.methodLink own index arraycopyName).before args s = true) (hnat : (Cond.native arraycopyName).before args s = true) (hstat : (Cond.static arraycopyName).before args s = true) (hini : (Cond.initialized "java/lang/System").before args s = true)
    (hT : rc_T Y sh rf) (hE : rc_E Y s s.heap) (hK : va_K Y.2.1 vwCl (rc_tys Y.2.2.1) s) (hW : rc_W Y sh rf σ H) (hS : va_S (rc_A sh s.heap.size) s.heap H locs) {r : Nat} (hr : r < 13)
    {t n1 : Nat} (ht : sh a = t) (h0 : t ≠ 0) (he0 : ∀ r : Nat → Int32, rc_C Y.2.2.1 t r (rf a) = .inl (Y.2.2.1 3, n1, .inl r)) {sp dp n : Int32} (hc : rc_cpk (fun j => (rc_byt.getD r []).getD j 0) sp dp n (rc_len.getD r 0) n1 = true)
    (hframes : 1 ≤ R.frames) (hlocals : (rest.map fun v => v.category).sum + (nativeFrameWords "java/lang/System" "arraycopy" 5 + 11) ≤ R.locals) (hdg : decode cc pc = .ok (.invokestatic index, 3))
    (kk : ∀ (σ1 : rc_S) (H1 : Heap) (locs1 : List Loc), σ1 = rc_row σ a (va_cpy (fun j => (rc_byt.getD r []).getD j 0) (σ a) sp.toNatClampNeg dp.toNatClampNeg n.toNatClampNeg) → rc_W Y sh rf σ1 H1 → va_S (rc_A sh s.heap.size) s.heap H1 locs1 → W p l e R s m args below meth c H1 locs1 cells slots Q (F0 m (pc + 3) ls rest)) : W p l e R s m args below meth c H locs cells slots Q (F0 m pc ls (.int n :: .int dp :: .ref a :: .int sp :: .ref (Y.2.2.2 (100 + r)) :: rest)) := by
  obtain ⟨scr, g1, g2, g3, g4, -, g5, g6⟩ := ((rc_E_S hE).1 r hr).2.2.2.kept (rc_SB hT hE hS).2.1
  exact rc_copyb hexec hb hml hown hlink hnat hstat hini hK hW hS g1 g2 g3 g4 g5 ht h0 he0 hc hframes hlocals hdg kk
/-- from an array of ours -/
theorem rc_copyw (hexec : p.tables.exec = Jvm.exec) (hb : c.code = cc) (hml : c.maxLocals = ls.size) {own : String} {index : Nat} (hown : s.vm.findClass own = some m.cls) (hlink : (Cond.methodLink own index arraycopyName).before args s = true) (hnat : (Cond.native arraycopyName).before args s = true) (hstat : (Cond.static arraycopyName).before args s = true) (hini : (Cond.initialized "java/lang/System").before args s = true)
    (hK : va_K Y.2.1 vwCl (rc_tys Y.2.2.1) s) (hW : rc_W Y sh rf σ H) {sz : Nat} {H0 : Heap} (hS : va_S (rc_A sh sz) H0 H locs) {b t2 n0 : Nat} (hb2 : sh b = t2) (h20 : t2 ≠ 0) (he2 : ∀ r : Nat → Int32, rc_C Y.2.2.1 t2 r (rf b) = .inl (Y.2.2.1 3, n0, .inl r))
    {t n1 : Nat} (ht : sh a = t) (h0 : t ≠ 0) (he0 : ∀ r : Nat → Int32, rc_C Y.2.2.1 t r (rf a) = .inl (Y.2.2.1 3, n1, .inl r)) {sp dp n : Int32} (hc : rc_cpk (σ b) sp dp n n0 n1 = true)
    (hframes : 1 ≤ R.frames) (hlocals : (rest.map fun v => v.category).sum + (nativeFrameWords "java/lang/System" "arraycopy" 5 + 11) ≤ R.locals) (hdg : decode cc pc = .ok (.invokestatic index, 3))
    (kk : ∀ (σ1 : rc_S) (H1 : Heap) (locs1 : List Loc), σ1 = rc_row σ a (va_cpy (σ b) (σ a) sp.toNatClampNeg dp.toNatClampNeg n.toNatClampNeg) → rc_W Y sh rf σ1 H1 → va_S (rc_A sh sz) H0 H1 locs1 → W p l e R s m args below meth c H1 locs1 cells slots Q (F0 m (pc + 3) ls rest)) : W p l e R s m args below meth c H locs cells slots Q (F0 m pc ls (.int n :: .int dp :: .ref a :: .int sp :: .ref b :: rest)) := by
  have hc0 : H[b]? = some (vp_cell (Y.2.2.1 3) (n0, .inl (σ b))) := rc_one hW hb2 h20 (he2 (σ b)) 0 _ rfl
  exact rc_copyb hexec hb hml hown hlink hnat hstat hini hK hW hS hc0 ((hK.2 3 _ rfl).1 n0 (fun j => .int (σ b j))) (fun h => by cases h) (by show _ ≤ (arrV (Y.2.2.1 3) n0 (fun j => .int (σ b j))).slots.size; rw [arrV_size]; exact Nat.le_refl _) (fun j hj => arrV_read _ _ hj) ht h0 he0 hc hframes hlocals hdg kk
end RCC
/-! RAW CELLS beside our world; worlds with one cell more -/
def rc_xs (sh : Nat → Nat) (a t : Nat) : Nat → Nat := fun q => if q = a then t else sh q
def rc_xr (rf : rc_F) (o b : Nat) : rc_F := fun q k => if q = o then b else rf q k
theorem rc_xs_e {sh : Nat → Nat} {a t : Nat} : rc_xs sh a t a = t := if_pos rfl
theorem rc_xs_n {sh : Nat → Nat} {a t q : Nat} (h : q ≠ a) : rc_xs sh a t q = sh q := if_neg h
theorem rc_xr_e {rf : rc_F} {o b k : Nat} : rc_xr rf o b o k = b := if_pos rfl
theorem rc_xr_n {rf : rc_F} {o b q : Nat} (h : q ≠ o) : rc_xr rf o b q = rf q := funext fun _ => if_neg h
theorem rc_xsA {sh : Nat → Nat} {a t sz : Nat} (ha : sz ≤ a) : rc_A (rc_xs sh a t) sz = rc_A sh sz := by
  funext q
  apply propext
  unfold rc_A
  by_cases h : q = a
  · subst h; exact ⟨fun _ => Or.inr ha, fun _ => Or.inr ha⟩
  · rw [rc_xs_n h]
theorem rc_xk {sh : Nat → Nat} {a t v t' : Nat} (h0 : sh a = 0) (h : sh v = t') (ht : t' ≠ 0) : rc_xs sh a t v = t' := by
  rw [rc_xs_n (fun e => ht (by rw [← h, e, h0]))]; exact h
theorem rc_xsT {Y : rc_Y} {sh : Nat → Nat} {rf : rc_F} {a t : Nat} (hT : rc_T Y sh rf) (h0 : sh a = 0) (hY : Y.1 ≤ a) (ht : t ∈ [24, 32, 33, 34, 35]) : rc_T Y (rc_xs sh a t) rf := by
  intro q
  by_cases h : q = a
  · subst h
    rw [rc_xs_e]
    refine ⟨fun _ => hY, ?_, ?_, ?_, ?_, ?_, ?_, ?_, ?_, ?_, ?_, ?_, ?_, ?_, ?_⟩ <;> (intro e; subst e; exact absurd ht (by decide))
  · rw [rc_xs_n h]
    obtain ⟨c0, c2, c3, c4, c7, c8, c9, c11, c12, c13, c14, c15, c25, c26, c27⟩ := hT q
    refine ⟨c0, fun e => ?_, fun e => ?_, fun e => ?_, fun e => ?_, fun e => ?_, fun e => ?_, fun e => ?_, fun e => ?_, fun e => ?_, fun e => ?_, fun e => ?_, fun e j hj => ?_, fun e j hj => ?_, fun e j hj => ?_⟩
    · have z := c2 e; exact ⟨rc_xk h0 z.1 (by decide), rc_xk h0 z.2.1 (by decide), rc_xk h0 z.2.2.1 (by decide), rc_xk h0 z.2.2.2 (by decide)⟩
    · exact rc_xk h0 (c3 e) (by decide)
    · have z := c4 e; exact ⟨rc_xk h0 z.1 (by decide), rc_xk h0 z.2 (by decide)⟩
    · have z := c7 e; exact ⟨rc_xk h0 z.1 (by decide), rc_xk h0 z.2.1 (by decide), rc_xk h0 z.2.2 (by decide)⟩
    · have z := c8 e; exact ⟨rc_xk h0 z.1 (by decide), rc_xk h0 z.2 (by decide)⟩
    · have z := c9 e; exact ⟨rc_xk h0 z.1 (by decide), rc_xk h0 z.2.1 (by decide), rc_xk h0 z.2.2.1 (by decide), rc_xk h0 z.2.2.2.1 (by decide), rc_xk h0 z.2.2.2.2.1 (by decide), rc_xk h0 z.2.2.2.2.2.1 (by decide), rc_xk h0 z.2.2.2.2.2.2 (by decide)⟩
    · exact rc_xk h0 (c11 e) (by decide)
    · exact rc_xk h0 (c12 e) (by decide)
    · exact rc_xk h0 (c13 e) (by decide)
    · exact rc_xk h0 (c14 e) (by decide)
    · exact rc_xk h0 (c15 e) (by decide)
    · exact rc_xk h0 (c25 e j hj) (by decide)
    · exact rc_xk h0 (c26 e j hj) (by decide)
    · exact rc_xk h0 (c27 e j hj) (by decide)
/-- the kind of an object's array -/
def rc_ar (t : Nat) : Nat := if t = 11 then 24 else t + 20
theorem rc_xoT {Y : rc_Y} {sh : Nat → Nat} {rf : rc_F} {o b t : Nat} (hT : rc_T Y sh rf) (h0 : sh o = 0) (hY : Y.1 ≤ o) (ht : t ∈ [11, 12, 13, 14, 15]) (hb : sh b = rc_ar t) : rc_T Y (rc_xs sh o t) (rc_xr rf o b) := by
  have hb' : rc_xs sh o t b = rc_ar t := rc_xk h0 hb (by simp at ht; rcases ht with e | e | e | e | e <;> subst e <;> decide)
  intro q
  by_cases h : q = o
  · subst h
    rw [rc_xs_e]
    refine ⟨fun _ => hY, fun e => ?_, fun e => ?_, fun e => ?_, fun e => ?_, fun e => ?_, fun e => ?_, fun e => ?_, fun e => ?_, fun e => ?_, fun e => ?_, fun e => ?_, fun e => ?_, fun e => ?_, fun e => ?_⟩
    · subst e; exact absurd ht (by decide)
    · subst e; exact absurd ht (by decide)
    · subst e; exact absurd ht (by decide)
    · subst e; exact absurd ht (by decide)
    · subst e; exact absurd ht (by decide)
    · subst e; exact absurd ht (by decide)
    · rw [rc_xr_e, hb', e]; rfl
    · rw [rc_xr_e, hb', e]; rfl
    · rw [rc_xr_e, hb', e]; rfl
    · rw [rc_xr_e, hb', e]; rfl
    · rw [rc_xr_e, hb', e]; rfl
    · subst e; exact absurd ht (by decide)
    · subst e; exact absurd ht (by decide)
    · subst e; exact absurd ht (by decide)
  · rw [rc_xs_n h, rc_xr_n h]
    obtain ⟨c0, c2, c3, c4, c7, c8, c9, c11, c12, c13, c14, c15, c25, c26, c27⟩ := hT q
    refine ⟨c0, fun e => ?_, fun e => ?_, fun e => ?_, fun e => ?_, fun e => ?_, fun e => ?_, fun e => ?_, fun e => ?_, fun e => ?_, fun e => ?_, fun e => ?_, fun e j hj => ?_, fun e j hj => ?_, fun e j hj => ?_⟩
    · have z := c2 e; exact ⟨rc_xk h0 z.1 (by decide), rc_xk h0 z.2.1 (by decide), rc_xk h0 z.2.2.1 (by decide), rc_xk h0 z.2.2.2 (by decide)⟩
    · exact rc_xk h0 (c3 e) (by decide)
    · have z := c4 e; exact ⟨rc_xk h0 z.1 (by decide), rc_xk h0 z.2 (by decide)⟩
    · have z := c7 e; exact ⟨rc_xk h0 z.1 (by decide), rc_xk h0 z.2.1 (by decide), rc_xk h0 z.2.2 (by decide)⟩
    · have z := c8 e; exact ⟨rc_xk h0 z.1 (by decide), rc_xk h0 z.2 (by decide)⟩
    · have z := c9 e; exact ⟨rc_xk h0 z.1 (by decide), rc_xk h0 z.2.1 (by decide), rc_xk h0 z.2.2.1 (by decide), rc_xk h0 z.2.2.2.1 (by decide), rc_xk h0 z.2.2.2.2.1 (by decide), rc_xk h0 z.2.2.2.2.2.1 (by decide), rc_xk h0 z.2.2.2.2.2.2 (by decide)⟩
    · exact rc_xk h0 (c11 e) (by decide)
    · exact rc_xk h0 (c12 e) (by decide)
    · exact rc_xk h0 (c13 e) (by decide)
    · exact rc_xk h0 (c14 e) (by decide)
    · exact rc_xk h0 (c15 e) (by decide)
    · exact rc_xk h0 (c25 e j hj) (by decide)
    · exact rc_xk h0 (c26 e j hj) (by decide)
    · exact rc_xk h0 (c27 e j hj) (by decide)
/-- the world, and one cell more -/
theorem rc_xsW {Y : rc_Y} {sh : Nat → Nat} {rf rf1 : rc_F} {σ σ1 : rc_S} {H H1 : Heap} {a t : Nat} (hW : rc_W Y sh rf σ H) (h0 : sh a = 0) (hq : ∀ q, sh q ≠ 0 → H1[q]? = H[q]?) (hat : va_at Y.2.1 vwCl (a, rc_C Y.2.2.1 t (σ1 a) (rf1 a)) H1) (hs : ∀ q, q ≠ a → σ1 q = σ q) (hr : ∀ q, q ≠ a → rf1 q = rf q) : rc_W Y (rc_xs sh a t) rf1 σ1 H1 := by
  intro b hb
  by_cases h : b = a
  · subst h; rw [rc_xs_e]; exact hat
  · rw [rc_xs_n h] at hb ⊢
    rw [hs b h, hr b h]
    exact (hW b hb).kept (hq b hb)
/-- less of it -/
theorem rc_W_sub {Y : rc_Y} {sh sh1 : Nat → Nat} {rf rf1 : rc_F} {σ σ1 : rc_S} {H : Heap} (hW : rc_W Y sh1 rf1 σ1 H) (h : ∀ q, sh q ≠ 0 → sh1 q = sh q ∧ rf1 q = rf q ∧ σ1 q = σ q) : rc_W Y sh rf σ H := by
  intro b hb
  have z := h b hb
  have w := hW b (by rw [z.1]; exact hb)
  rw [z.1, z.2.1, z.2.2] at w
  exact w
section RCX2
variable {p : Program} {l : Launch} {e : Env} {R : Room} {s : State} {m : MethodId} {args : Array Value} {below : List Frame} {meth : Method} {c : Code} {H H0 : Heap} {locs : List Loc} {cells slots : Nat} {Q : State → Prop}
variable {cc : ByteArray} {pc : Nat} {ls : Array Slot} {rest : List Value} {Y : rc_Y} {sh : Nat → Nat} {rf : rc_F} {σ σ' σ1 : rc_S} {a : Nat}
theorem rc_newR (hexec : p.tables.exec = Jvm.exec) (hb : c.code = cc) {own C : String} {T : u_T} {N ci index : Nat} {Ts : List Cond} (hts : ∀ w ∈ Ts, w.before args s = true) (hin : ∀ w ∈ u_ws C T N, w ∈ Ts) (ty : Nat → FieldType) (hty : ∀ k, k < N → parseFieldDescriptor (T k).2.2.1 = some (ty k)) (hown : s.vm.findClass own = some m.cls) (hcl : (Cond.classLink own index C).before args s = true) (hinst : (Cond.instantiable C N).before args s = true) (hini : (Cond.initialized C).before args s = true)
    (hK : va_K Y.2.1 vwCl (rc_tys Y.2.2.1) s) (hc : vwCl[ci]? = some (C, T, N)) {fs : List Value} (hfs : ∀ j, j < N → defaultValue (ty j) = vp_V fs j) (hcells : cells + 1 ≤ R.cells) (hslots : slots + N ≤ R.slots) (hdg : decode cc pc = .ok (.new index, 3))
    (kk : ∀ (H1 : Heap), va_at Y.2.1 vwCl (H.size, .inr (ci, fs)) H1 → H1.size = H.size + 1 → (∀ q : Nat, q < H.size → H1[q]? = H[q]?) → W p l e R s m args below meth c H1 locs (cells + 1) (slots + N) Q (F0 m (pc + 3) ls (.ref H.size :: rest))) : W p l e R s m args below meth c H locs cells slots Q (F0 m pc ls rest) := by
  have hKn := hK.1 ci _ hc
  refine W.newcK hexec hb hown hcl hinst hini rfl hdg hcells hslots hKn.2.1 rfl fun H1 kC hkC e1 z1 o1 => ?_
  exact kk H1 ⟨_, hc, (u_born ty hts hin hKn hkC e1 hty).to hfs⟩ z1 o1
theorem rc_newaR0 (hexec : p.tables.exec = Jvm.exec) (hb : c.code = cc) {atype : ArrayType} (harr : (Cond.arrayClass (newarray.typeOf atype)).before args s = true) {ty : FieldType} (hty : newarray.typeOf atype = ty) (hK : va_K Y.2.1 vwCl (rc_tys Y.2.2.1) s) (t0 : Nat) {cA : ClassId} (ht0 : (rc_tys Y.2.2.1)[t0]? = some (cA, ty)) (hdv : defaultValue ty = .int 0) {N' : Nat}
    {n : Int32} (hn : ¬ n < 0) (hN : n.toNatClampNeg = N') (hbytes : N' * componentBytes ty ≤ 536870912) (hcells : cells + 1 ≤ R.cells) (hslots : slots + N' ≤ R.slots) (hdg : decode cc pc = .ok (.newarray atype, 2))
    (kk : ∀ (H1 : Heap), va_at Y.2.1 vwCl (H.size, .inl (cA, N', .inl (fun _ => 0))) H1 → H1.size = H.size + 1 → (∀ q : Nat, q < H.size → H1[q]? = H[q]?) → W p l e R s m args below meth c H1 locs (cells + 1) (slots + N') Q (F0 m (pc + 2) ls (.ref H.size :: rest))) : W p l e R s m args below meth c H locs cells slots Q (F0 m pc ls (.int n :: rest)) := by
  subst hty
  refine va_newaK hexec hb harr rfl hdg rfl hn hN hbytes hcells hslots rfl fun H1 cA' e1 z1 o1 hAr hNm => ?_
  have hRA := (hK.2 t0 _ ht0).2
  have hcA : cA' = cA := by
    refine Option.some.inj (hNm.symm.trans ?_)
    cases atype <;> exact hRA
  subst hcA
  refine kk H1 ?_ z1 o1
  show H1[H.size]? = some (vp_cell _ _)
  rw [e1, hdv, vp_cell_i]
theorem rc_newaR (hexec : p.tables.exec = Jvm.exec) (hb : c.code = cc) (harr : (Cond.arrayClass (newarray.typeOf .byte)).before args s = true) (hK : va_K Y.2.1 vwCl (rc_tys Y.2.2.1) s) {N' : Nat}
    {n : Int32} (hn : ¬ n < 0) (hN : n.toNatClampNeg = N') (hbytes : N' * componentBytes .byte ≤ 536870912) (hcells : cells + 1 ≤ R.cells) (hslots : slots + N' ≤ R.slots) (hdg : decode cc pc = .ok (.newarray .byte, 2))
    (kk : ∀ (H1 : Heap), va_at Y.2.1 vwCl (H.size, .inl (Y.2.2.1 3, N', .inl (fun _ => 0))) H1 → H1.size = H.size + 1 → (∀ q : Nat, q < H.size → H1[q]? = H[q]?) → W p l e R s m args below meth c H1 locs (cells + 1) (slots + N') Q (F0 m (pc + 2) ls (.ref H.size :: rest))) : W p l e R s m args below meth c H locs cells slots Q (F0 m pc ls (.int n :: rest)) :=
  rc_newaR0 hexec hb harr (ty := .byte) rfl hK 3 rfl rfl hn hN hbytes hcells hslots hdg kk
theorem rc_putR (hexec : p.tables.exec = Jvm.exec) (hb : c.code = cc) {own ref C : String} {T : u_T} {N ci index : Nat} {Ts : List Cond} (hts : ∀ w ∈ Ts, w.before args s = true) (hin : ∀ w ∈ u_ws C T N, w ∈ Ts) (ty0 : Nat → FieldType) (hty : ∀ k, k < N → parseFieldDescriptor (T k).2.2.1 = some (ty0 k)) (hnm : ∀ a, a < N → ∀ b, b < N → a ≠ b → (T a).2.1 ≠ (T b).2.1) (hown : s.vm.findClass own = some m.cls) (hK : va_K Y.2.1 vwCl (rc_tys Y.2.2.1) s) {fs : List Value} (hat : va_at Y.2.1 vwCl (a, .inr (ci, fs)) H) (hc : vwCl[ci]? = some (C, T, N)) (k : Nat) (hk : k < N) (hlink : (Cond.fieldLink own index ref (T k).2.1 (T k).2.2.1).before args s = true) (hsame : ∀ x, s.fieldFound? (T k).1 (T k).2.1 (T k).2.2.1 = some x → s.fieldFound? ref (T k).2.1 (T k).2.2.1 = some x) (hfin : (T k).2.2.2 = false ∨ ((T k).2.2.2 = true ∧ meth.name = "<init>" ∧ (T k).1 = own)) {ty : FieldType} {v : Value} (hd : parseFieldDescriptor (T k).2.2.1 = some ty) (hn : narrow ty v = v) (hfit : fits ty v = true) (hl : k < fs.length) (hdg : decode cc pc = .ok (.putfield index, 3))
    (kk : ∀ (H1 : Heap) (locs1 : List Loc), va_at Y.2.1 vwCl (a, .inr (ci, fs.set k v)) H1 → H1.size = H.size → (∀ q : Nat, q ≠ a → H1[q]? = H[q]?) → (∀ l ∈ locs1, l ∈ locs ∨ l.base = a) → W p l e R s m args below meth c H1 locs1 cells slots Q (F0 m (pc + 3) ls rest)) : W p l e R s m args below meth c H locs cells slots Q (F0 m pc ls (v :: .ref a :: rest)) := by
  have hap := va_apart (own := own) hts hin ty0 hty hnm hK hc
  obtain ⟨r, h1, cell, q1, q2, q3, q4⟩ := hat
  have hr : r = (C, T, N) := Option.some.inj (h1.symm.trans hc)
  subst hr
  obtain ⟨hS, hfc, kC, hkC, hkind⟩ := hK.1 ci _ hc
  obtain ⟨cf, kf, fi, f, hi, hsl⟩ := hS k hk
  have hlay := hts _ (hin _ (u_in_lay hk))
  unfold u_lay at hlay
  have hst := (u_facts hfc hkC (u_lays hts hin hk) hi).1
  have done : ∀ H' : Heap, H'[a]? = some (cell.setSlot f.slot v) → H'.size = H.size → (∀ q : Nat, q ≠ a → H'[q]? = H[q]?) → W p l e R s m args below meth c H' (locs ++ [⟨a, f.slot⟩]) cells slots Q { F0 m pc ls (v :: .ref a :: rest) with pc := (F0 m pc ls (v :: .ref a :: rest)).pc + 3, stack := rest } := by
    intro H' e1 e2 e3
    rw [hsl] at e1 ⊢
    refine kk H' _ ⟨_, hc, t_OB.to (V := updV (vp_V fs) k v) ⟨_, e1, q2, q3, t_set q4 hap hk v⟩ (fun j _ => vp_updV_set hl v j)⟩ e2 e3 (fun l hl' => ?_)
    rcases List.mem_append.mp hl' with h | h
    · exact Or.inl h
    · rw [List.mem_singleton.mp h]; exact Or.inr rfl
  rcases hfin with hfin | ⟨hfin, hin2, hdecl⟩
  · rw [if_neg (by rw [hfin]; decide)] at hlay
    have h6 := u_store hfc hkC hkind hlay hi hd hn hfit
    exact W.putK hexec hb (f := f) ⟨hown, hlink, ⟨_, _, _, hsame _ hi⟩, hst⟩ (by rw [q2]; exact h6) q1 q3 (by rw [hsl]; exact k2_hasslot (q4 k hk)) rfl rfl hdg done
  · rw [if_pos hfin] at hlay
    have hcf : m.cls = cf := by
      obtain ⟨_, _, c', _, _, _, -, -, hf', -, -, -, hown2, -⟩ := Cond.laysFinal_spec hlay
      have e1 : c' = cf := by have := hi.symm.trans hf'; simp at this; exact this.1.symm
      rw [hdecl] at hown2
      rw [← e1]; exact Option.some.inj (hown.symm.trans hown2)
    have h6 := u_fits hfc hkC hkind (Or.inr hlay) hi hd hn hfit
    exact W.putFinK hexec hb hown hlink (hsame _ hi) hst hcf hin2 (by rw [q2]; exact h6) q1 q3 (by rw [hsl]; exact k2_hasslot (q4 k hk)) rfl rfl hdg done
/-- a byte array of ours is answered -/
theorem rc_ebret {v r tg : Nat} {mc ms : Nat} (hx : p.tables.exec = Jvm.exec) (hb : c.code = cc) (hr : meth.sig.returnType = some (.array .byte)) (hlocks : meth.locks = false) (hW : rc_W Y sh rf σ H) (hS : va_S (rc_A sh s.heap.size) s.heap H locs) (hc : cells ≤ mc) (hs : slots ≤ ms) (htg : sh v = tg) (hm : some (v, σ) = some (r, σ')) (hdg : decode cc pc = .ok (.areturn, 1)) :
    W p l e R s m args below meth c H locs cells slots (MQ below (va_Qr (fun (_ : Unit) => True) (fun _ a t => (a = r ∧ sh a = tg) ∧ rc_W Y sh rf σ' t.heap) (rc_A sh s.heap.size)) args s mc ms (rc_A sh s.heap.size)) (F0 m pc ls [.ref v]) := by
  cases hm
  refine W.widen hc hs ?_
  exact W.aret (v := .ref v) hx hb hr (Or.inr ⟨_, rfl⟩) (Or.inr ⟨_, rfl⟩) (fun t ht _ => ⟨⟨(), v, rfl, trivial, ⟨rfl, htg⟩, show rc_W Y sh rf σ t.heap by rw [ht]; exact hW⟩, hS.F ht⟩) hS.2.2 hdg hlocks
/-- some reference is answered, B holds of it -/
theorem rc_rret {v : Nat} {rt : FieldType} {B : Nat → Heap → Prop} {A : Nat → Prop} {mc ms : Nat} (hx : p.tables.exec = Jvm.exec) (hb : c.code = cc) (hr : meth.sig.returnType = some rt) (hrt : (∃ n, rt = .object n) ∨ ∃ t, rt = .array t) (hlocks : meth.locks = false) (hB : B v H) (hS : va_S A s.heap H locs) (hc : cells ≤ mc) (hs : slots ≤ ms) (hdg : decode cc pc = .ok (.areturn, 1)) :
    W p l e R s m args below meth c H locs cells slots (MQ below (va_Qr (fun (_ : Unit) => True) (fun _ a t => B a t.heap) A) args s mc ms A) (F0 m pc ls [.ref v]) := by
  refine W.widen hc hs ?_
  exact W.aret (v := .ref v) hx hb hr hrt (Or.inr ⟨_, rfl⟩) (fun t ht _ => ⟨⟨(), v, rfl, trivial, show B v t.heap by rw [ht]; exact hB⟩, hS.F ht⟩) hS.2.2 hdg hlocks
/-- a call that answers some reference -/
theorem rc_rcall {B : Nat → Heap → Prop} {A A1 : Nat → Prop} {mc ms : Nat} {st0 : List Value} {av : Array Value} (hS : va_S A s.heap H locs) (h1 : ∀ q : Nat, q < H.size → A1 q → A q) (h2 : ∀ q, H.size ≤ q → A q) (h3 : ∀ q, A1 q → A q)
    (hr : va_Run p l e R s m args below meth c H locs cells slots mc ms (F0 m pc ls st0) rest (va_Qr (fun (_ : Unit) => True) (fun _ a t => B a t.heap) A1 av) A1)
    (kk : ∀ (v : Nat) (H1 : Heap) (locs1 : List Loc), B v H1 → H.size ≤ H1.size → (∀ q : Nat, q < H.size → ¬ A1 q → H1[q]? = H[q]?) → va_S A s.heap H1 locs1 → W p l e R s m args below meth c H1 locs1 (cells + mc) (slots + ms) Q (F0 m (pc + 3) ls (.ref v :: rest))) : W p l e R s m args below meth c H locs cells slots Q (F0 m pc ls st0) :=
  va_callr hr hS h1 h3 (fun u ra t H1 locs1 ht _ _ hB hz hq hS1 => kk ra H1 locs1 (by rw [← ht]; exact hB) hz hq hS1)
end RCX2
section RCX3
variable {p : Program} {l : Launch} {e : Env} {R : Room} {s : State} {m : MethodId} {args : Array Value} {below : List Frame} {meth : Method} {c : Code} {H H0 : Heap} {locs : List Loc} {cells slots : Nat} {Q : State → Prop}
variable {cc : ByteArray} {pc : Nat} {ls : Array Slot} {rest : List Value} {Y : rc_Y} {sh : Nat → Nat} {rf : rc_F} {σ σ' σ1 : rc_S} {a : Nat} {A : Nat → Prop}
theorem rc_preB (hW : rc_W Y sh rf σ H) (hK : va_K Y.2.1 vwCl (rc_tys Y.2.2.1) s) (hE : rc_E Y s s.heap) (hB : va_S (fun q => Y.1 ≤ q) s.heap H locs) (av : List Value) (U : State) (hU : U.heap = H) (hwm : s.WarmedH U.vm) : rc_P Y sh rf σ H.size av av.toArray U :=
  ⟨rfl, by rw [hU], by rw [hU]; exact hW, va_K.moved hwm.alike hK, by rw [hU]; exact hE.go hwm hB.1 (fun q h1 h2 => hB.2.1 q h1 h2)⟩
theorem rc_preVB (hW : rc_W Y sh rf σ H) (hK : va_K Y.2.1 vwCl (rc_tys Y.2.2.1) s) (hE : rc_E Y s s.heap) (hB : va_S (fun q => Y.1 ≤ q) s.heap H locs) {b t ci : Nat} (hb : sh b = t) (h0 : t ≠ 0) {fs : List Value} (he : rc_C Y.2.2.1 t (σ b) (rf b) = .inr (ci, fs)) {q : vw_C} (hc : vwCl[ci]? = some q) (As : List Value) : PreV s H q.1 b (rc_P Y sh rf σ H.size (.ref b :: As)) As :=
  ⟨rc_blind, va_recv hK (rc_one hW hb h0 he) hc (q0 := 0) rfl, fun U hU hwm => rc_preB hW hK hE hB _ U hU hwm⟩
theorem rc_preSB (hW : rc_W Y sh rf σ H) (hK : va_K Y.2.1 vwCl (rc_tys Y.2.2.1) s) (hE : rc_E Y s s.heap) (hB : va_S (fun q => Y.1 ≤ q) s.heap H locs) (As : List Value) : PreS s H (rc_P Y sh rf σ H.size As) As :=
  ⟨rc_blind, fun U hU hwm => rc_preB hW hK hE hB _ U hU hwm⟩
/-- calls in a world whose cells may be written: what else stands is kept -/
theorem rc_gi {mc ms : Nat} {st0 : List Value} {av : Array Value} {v : Int32} (hS : va_S A s.heap H locs) (hA : ∀ q, rc_A sh H.size q → A q)
    (hr : va_Run p l e R s m args below meth c H locs cells slots mc ms (F0 m pc ls st0) rest (va_Qi (fun (r' : Int32) (_ : Unit) => r' = v) (fun _ t => rc_W Y sh rf σ1 t.heap) (rc_A sh H.size) av) (rc_A sh H.size))
    (kk : ∀ (H1 : Heap) (locs1 : List Loc), rc_W Y sh rf σ1 H1 → H.size ≤ H1.size → (∀ q : Nat, q < H.size → ¬ rc_A sh H.size q → H1[q]? = H[q]?) → va_S A s.heap H1 locs1 → W p l e R s m args below meth c H1 locs1 (cells + mc) (slots + ms) Q (F0 m (pc + 3) ls (.int v :: rest))) : W p l e R s m args below meth c H locs cells slots Q (F0 m pc ls st0) :=
  va_calli hr hS (fun q _ h => hA q h) hA (fun r u t H1 locs1 ht _ hp hB hz hq hS1 => by
    subst hp
    exact kk H1 locs1 (by rw [← ht]; exact hB) hz hq hS1)
theorem rc_gr {mc ms tg : Nat} {st0 : List Value} {av : Array Value} {v : Nat} (hS : va_S A s.heap H locs) (hA : ∀ q, rc_A sh H.size q → A q)
    (hr : va_Run p l e R s m args below meth c H locs cells slots mc ms (F0 m pc ls st0) rest (va_Qr (fun (_ : Unit) => True) (fun _ a t => (a = v ∧ sh a = tg) ∧ rc_W Y sh rf σ1 t.heap) (rc_A sh H.size) av) (rc_A sh H.size))
    (kk : ∀ (H1 : Heap) (locs1 : List Loc), rc_W Y sh rf σ1 H1 → H.size ≤ H1.size → (∀ q : Nat, q < H.size → ¬ rc_A sh H.size q → H1[q]? = H[q]?) → va_S A s.heap H1 locs1 → W p l e R s m args below meth c H1 locs1 (cells + mc) (slots + ms) Q (F0 m (pc + 3) ls (.ref v :: rest))) : W p l e R s m args below meth c H locs cells slots Q (F0 m pc ls st0) :=
  va_callr hr hS (fun q _ h => hA q h) hA (fun u ra t H1 locs1 ht _ _ hB hz hq hS1 => by
    obtain ⟨⟨he, htg⟩, hB⟩ := hB
    subst he
    exact kk H1 locs1 (by rw [← ht]; exact hB) hz hq hS1)
theorem rc_gv {B : Heap → Prop} {A1 : Nat → Prop} {mc ms : Nat} {st0 : List Value} {av : Array Value} (hS : va_S A s.heap H locs) (hA : ∀ q, A1 q → A q)
    (hr : va_Run p l e R s m args below meth c H locs cells slots mc ms (F0 m pc ls st0) rest (va_Qv (fun (_ : Unit) => True) (fun _ t => B t.heap) A1 av) A1)
    (kk : ∀ (H1 : Heap) (locs1 : List Loc), B H1 → H.size ≤ H1.size → (∀ q : Nat, q < H.size → ¬ A1 q → H1[q]? = H[q]?) → va_S A s.heap H1 locs1 → W p l e R s m args below meth c H1 locs1 (cells + mc) (slots + ms) Q (F0 m (pc + 3) ls rest)) : W p l e R s m args below meth c H locs cells slots Q (F0 m pc ls st0) :=
  va_callv hr hS (fun q _ h => hA q h) hA (fun u t H1 locs1 ht _ _ hB hz hq hS1 => kk H1 locs1 (by rw [← ht]; exact hB) hz hq hS1)
theorem rc_W.keptA {H1 : Heap} {sh1 : Nat → Nat} {rf1 : rc_F} {σ2 : rc_S} {n : Nat} (hW : rc_W Y sh1 rf1 σ2 H) (hd : ∀ q, sh1 q ≠ 0 → sh q = 0) (hn : H.size ≤ n) (hq : ∀ q : Nat, q < H.size → ¬ rc_A sh n q → H1[q]? = H[q]?) : rc_W Y sh1 rf1 σ2 H1 :=
  hW.kept (fun a ha => hq a (hW.lt ha) (fun z => by
    rcases z with z | z
    · exact z (hd a ha)
    · exact absurd (hW.lt ha) (Nat.not_lt.mpr (Nat.le_trans hn z))))
end RCX3
/-- an object under construction beside our world -/
def rc_Px (Y : rc_Y) (sh : Nat → Nat) (rf : rc_F) (σ : rc_S) (sz x ci : Nat) (fs av : List Value) : Array Value → State → Prop := va_Pc av (fun U => U.heap.size = sz ∧ rc_B Y sh rf σ U ∧ va_at Y.2.1 vwCl (x, .inr (ci, fs)) U.heap)
theorem rc_blindx {Y : rc_Y} {sh : Nat → Nat} {rf : rc_F} {σ : rc_S} {sz x ci : Nat} {fs av : List Value} : FrameBlind (rc_Px Y sh rf σ sz x ci fs av) := by
  intro a U g mk q
  obtain ⟨q0, q1, qB, qX⟩ := q
  exact ⟨q0, q1, rc_Bc qB, qX⟩
theorem rc_prex {s : State} {H : Heap} {locs : List Loc} {Y : rc_Y} {sh : Nat → Nat} {rf : rc_F} {σ : rc_S} {x ci : Nat} {fs : List Value} (hW : rc_W Y sh rf σ H) (hK : va_K Y.2.1 vwCl (rc_tys Y.2.2.1) s) (hE : rc_E Y s s.heap) (hB : va_S (fun q => Y.1 ≤ q) s.heap H locs) (hat : va_at Y.2.1 vwCl (x, .inr (ci, fs)) H) (As : List Value) : PreS s H (rc_Px Y sh rf σ H.size x ci fs As) As :=
  ⟨rc_blindx, fun U hU hwm => by
    obtain ⟨q0, q1, qB⟩ := rc_preB hW hK hE hB As U hU hwm
    exact ⟨q0, q1, qB, by rw [hU]; exact hat⟩⟩
/-- an array is answered that our world has not -/
def rc_pB (Y : rc_Y) (sh : Nat → Nat) (rf : rc_F) (σ : rc_S) (tg : Nat) (g : Nat → Int32) (sz : Nat) (a : Nat) (H : Heap) : Prop := sz ≤ a ∧ rc_W Y (rc_xs sh a tg) rf (rc_row σ a g) H
/-- a String is made -/
def rc_pS (Y : rc_Y) (sh : Nat → Nat) (rf : rc_F) (σ : rc_S) (t : Nat) (g : Nat → Int32) (sz x : Nat) (H : Heap) : Prop := ∃ a, sz ≤ a ∧ a ≠ x ∧ rc_W Y (rc_xs (rc_xs sh a (t + 20)) x t) (rc_xr rf x a) (rc_row (rc_row σ a g) x (fun _ => 0)) H
theorem rc_gO {own C owner : String} {i : Nat} {x y : MethodName} {cd : Cond} (h1 : Cond.methodLink own i x ∈ rc_big) (h2 : Cond.sameMethod x.cls owner x.name x.desc ∈ rc_big) (h7 : Cond.instanceMethod ⟨owner, x.name, x.desc⟩ ∈ rc_big) (h3 : Cond.selects C x y ∈ rc_big) (h4 : Cond.instanceMethod y ∈ rc_big) (h6 : Cond.initialized y.cls ∈ rc_big) (h5 : cd ∈ rc_big) : GoodIn rc_big (va_wsO own i C owner x y (cd :: rc_big)) := rc_g0 (by
  intro w hw
  simp only [va_wsO, List.cons_append, List.nil_append, List.mem_cons] at hw
  rcases hw with rfl | rfl | rfl | rfl | rfl | rfl | rfl | hw
  · exact h1
  · exact h2
  · exact h7
  · exact h3
  · exact h4
  · exact h6
  · exact h5
  · exact hw)
