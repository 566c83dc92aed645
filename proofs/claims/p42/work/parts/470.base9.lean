/-! COPYING BYTES into an array of our world; new cells beside our world -/
def rc_cpk (f : Nat → Int32) (sp dp n : Int32) (n0 n1 : Nat) : Bool := !(decide (sp < 0)) && (!(decide (dp < 0)) && (!(decide (n < 0)) && (decide (sp.toNatClampNeg + n.toNatClampNeg ≤ n0) && (decide (dp.toNatClampNeg + n.toNatClampNeg ≤ n1) && (List.range n.toNatClampNeg).all (fun i => fits .byte (.int (f (sp.toNatClampNeg + i))))))))
theorem rc_cpkI {f : Nat → Int32} {sp dp n : Int32} {n0 n1 : Nat} (h : rc_cpk f sp dp n n0 n1 = true) : ¬ sp < 0 ∧ ¬ dp < 0 ∧ ¬ n < 0 ∧ sp.toNatClampNeg + n.toNatClampNeg ≤ n0 ∧ dp.toNatClampNeg + n.toNatClampNeg ≤ n1 ∧ ∀ i, i < n.toNatClampNeg → fits .byte (.int (f (sp.toNatClampNeg + i))) = true := by
  unfold rc_cpk at h
  simp only [Bool.and_eq_true, Bool.not_eq_true', decide_eq_false_iff_not, decide_eq_true_eq] at h
  obtain ⟨h1, h2, h3, h4, h5, h6⟩ := h
  exact ⟨h1, h2, h3, h4, h5, fun i hi => List.all_eq_true.mp h6 i (List.mem_range.mpr hi)⟩
section RCC
variable {p : Program} {l : Launch} {e : Env} {R : Room} {s : State} {m : MethodId} {args : Array Value} {below : List Frame} {meth : Method} {c : Code} {H : Heap} {locs : List Loc} {cells slots : Nat} {Q : State → Prop}
variable {cc : ByteArray} {pc : Nat} {ls : Array Slot} {rest : List Value} {Y : rc_Y} {sh : Nat → Nat} {rf : rc_F} {σ : rc_S} {a : Nat}
theorem rc_nn {z : Int32} (h : ¬ z < 0) : z.toInt = (z.toNatClampNeg : Int) := (toNatClampNeg_of_not_neg32 z h).symm
theorem rc_copyb (hexec : p.tables.exec = Jvm.exec) (hb : c.code = cc) (hml : c.maxLocals = ls.size) {own : String} {index : Nat} (hown : s.vm.findClass own = some m.cls) (hlink : (Cond.methodLink own index arraycopyName).before args s = true) (hnat : (Cond.native arraycopyName).before args s = true) (hstat : (Cond.static arraycopyName).before args s = true) (hini : (Cond.initialized "java/lang/System").before args s = true)
    (hK : va_K Y.2.1 vwCl (rc_tys Y.2.2.1) s) (hW : rc_W Y sh rf σ H) {sz : Nat} {H0 : Heap} (hS : va_S (rc_A sh sz) H0 H locs) {src n0 : Nat} {f : Nat → Int32} {scr : Cell} (hs1 : H[src]? = some scr) (hs2 : s.isArrayOf scr .byte) (hs3 : scr.vm ≠ .unknown) (hs4 : n0 ≤ scr.slots.size) (hs5 : ∀ j, j < n0 → scr.slots[j]? = some (.int (f j)))
    {t n1 : Nat} (ht : sh a = t) (h0 : t ≠ 0) (he0 : ∀ r : Nat → Int32, rc_C Y.2.2.1 t r (rf a) = .inl (Y.2.2.1 3, n1, .inl r)) {sp dp n : Int32} (hc : rc_cpk f sp dp n n0 n1 = true)
    (hframes : 1 ≤ R.frames) (hlocals : (rest.map fun v => v.category).sum + (nativeFrameWords "java/lang/System" "arraycopy" 5 + 11) ≤ R.locals) (hdg : decode cc pc = .ok (.invokestatic index, 3))
    (kk : ∀ (σ1 : rc_S) (H1 : Heap) (locs1 : List Loc), σ1 = rc_row σ a (va_cpy f (σ a) sp.toNatClampNeg dp.toNatClampNeg n.toNatClampNeg) → rc_W Y sh rf σ1 H1 → va_S (rc_A sh sz) H0 H1 locs1 → W p l e R s m args below meth c H1 locs1 cells slots Q (F0 m (pc + 3) ls rest)) : W p l e R s m args below meth c H locs cells slots Q (F0 m pc ls (.int n :: .int dp :: .ref a :: .int sp :: .ref src :: rest)) := by
  obtain ⟨h1, h2, h3, h4, h5, hfit⟩ := rc_cpkI hc
  intro T hT X
  have hc1 : H[a]? = some (vp_cell (Y.2.2.1 3) (n1, .inl (σ a))) := rc_one hW ht h0 (he0 (σ a)) 0 _ rfl
  obtain ⟨hs6, k0, hk0, cm0, hkk0⟩ := hs2
  obtain ⟨-, k1, hk1, cm1, hkk1⟩ := (hK.2 3 _ rfl).1 n1 (fun j => .int (σ a j))
  obtain ⟨vm', X', step⟩ := X.arraycopy hexec hown hlink hnat hstat hini (src := src) (dst := a) (cs := scr) (cd := vp_cell (Y.2.2.1 3) (n1, .inl (σ a))) (srcPos := sp) (destPos := dp) (n := n) (by rw [hT]; exact hs1) (by rw [hT]; exact hc1)
    hs6 (fun _ h => by cases h) hs3 (fun h => by cases h) hk0 hk1 hkk0 hkk1 (by simp [refKind]) h1 h2 h3
    (by rw [rc_nn h1, rc_nn h3]; omega)
    (by rw [rc_nn h2, rc_nn h3]; show ¬ _ > ((arrV (Y.2.2.1 3) n1 (fun j => .int (σ a j))).slots.size : Int); rw [arrV_size]; omega)
    (fun _ _ i hi => by
      have ev : scr.slots.getD (sp.toNatClampNeg + i) .null = .int (f (sp.toNatClampNeg + i)) := by
        rw [Array.getD_eq_getD_getElem?, hs5 _ (by omega)]
        rfl
      rw [ev]
      exact ⟨hfit i hi, trivial⟩)
    (g := F0 m pc ls (.int n :: .int dp :: .ref a :: .int sp :: .ref src :: rest)) rfl (by rw [hml]) (rest := rest) rfl (by rw [hb]; exact hdg) hframes (by show 2 * 0 + _ + _ ≤ _; omega)
  have e1 : copied scr (vp_cell (Y.2.2.1 3) (n1, .inl (σ a))) sp dp n = vp_cell (Y.2.2.1 3) (n1, .inl (va_cpy f (σ a) sp.toNatClampNeg dp.toNatClampNeg n.toNatClampNeg)) := va_copiedX (fun z => .int z) scr (Y.2.2.1 3) f (σ a) hs5 h4
  rw [e1] at X' step
  have hlt : a < H.size := (Array.getElem?_eq_some_iff.mp hc1).1
  have hAa : rc_A sh sz a := Or.inl (by rw [ht]; exact h0)
  have eh : ((T.setVm vm').setCell a (vp_cell (Y.2.2.1 3) (n1, .inl (va_cpy f (σ a) sp.toNatClampNeg dp.toNatClampNeg n.toNatClampNeg)))).heap = H.setIfInBounds a (vp_cell (Y.2.2.1 3) (n1, .inl (va_cpy f (σ a) sp.toNatClampNeg dp.toNatClampNeg n.toNatClampNeg))) := by rw [← hT]; rfl
  have oq : ∀ q : Nat, q ≠ a → (H.setIfInBounds a (vp_cell (Y.2.2.1 3) (n1, .inl (va_cpy f (σ a) sp.toNatClampNeg dp.toNatClampNeg n.toNatClampNeg))))[q]? = H[q]? := fun q hq => by simp [Array.getElem?_setIfInBounds, Ne.symm hq]
  have hW1 : rc_W Y sh rf (rc_row σ a (va_cpy f (σ a) sp.toNatClampNeg dp.toNatClampNeg n.toNatClampNeg)) (H.setIfInBounds a (vp_cell (Y.2.2.1 3) (n1, .inl (va_cpy f (σ a) sp.toNatClampNeg dp.toNatClampNeg n.toNatClampNeg)))) := by
    refine rc_wr hW ht ?_ oq
    rw [he0]
    show (H.setIfInBounds a _)[a]? = some _
    simp [Array.getElem?_setIfInBounds, hlt]
  obtain ⟨t', a1, b1⟩ := kk _ _ _ rfl hW1 ⟨by simp; exact hS.1, fun q g1 g2 => by
      rw [oq q (fun e => g2 (by rw [e]; exact hAa))]
      exact hS.2.1 q g1 g2, fun q hq => by
      rcases List.mem_append.mp hq with h | h
      · exact hS.2.2 q h
      · obtain ⟨z, -, hz⟩ := List.mem_map.mp h
        rw [← hz]
        exact hAa⟩ _ eh X'
  exact ⟨t', step t' a1, b1⟩
/-- from a text's constant bytes -/
theorem rc_copyc (hexec : p.tables.exec = Jvm.exec) (hb : c.code = cc) (hml : c.maxLocals = ls.size) {own : String} {index : Nat} (hown : s.vm.findClass own = some m.cls) (hlink : (Cond.methodLink own index arraycopyName).before args s = true) (hnat : (Cond.native arraycopyName).before args s = true) (hstat : (Cond.static arraycopyName).before args s = true) (hini : (Cond.initialized "java/lang/System").before args s = true)
    (hT : rc_T Y sh rf) (hE : rc_E Y s s.heap) (hK : va_K Y.2.1 vwCl (rc_tys Y.2.2.1) s) (hW : rc_W Y sh rf σ H) (hS : va_S (rc_A sh s.heap.size) s.heap H locs) {r : Nat} (hr : r < 13)
    {t n1 : Nat} (ht : sh a = t) (h0 : t ≠ 0) (he0 : ∀ r : Nat → Int32, rc_C Y.2.2.1 t r (rf a) = .inl (Y.2.2.1 3, n1, .inl r)) {sp dp n : Int32} (hc : rc_cpk (fun j => (rc_byt.getD r []).getD j 0) sp dp n (rc_len.getD r 0) n1 = true)
    (hframes : 1 ≤ R.frames) (hlocals : (rest.map fun v => v.category).sum + (nativeFrameWords "java/lang/System" "arraycopy" 5 + 11) ≤ R.locals) (hdg : decode cc pc = .ok (.invokestatic index, 3))
    (kk : ∀ (σ1 : rc_S) (H1 : Heap) (locs1 : List Loc), σ1 = rc_row σ a (va_cpy (fun j => (rc_byt.getD r []).getD j 0) (σ a) sp.toNatClampNeg dp.toNatClampNeg n.toNatClampNeg) → rc_W Y sh rf σ1 H1 → va_S (rc_A sh s.heap.size) s.heap H1 locs1 → W p l e R s m args below meth c H1 locs1 cells slots Q (F0 m (pc + 3) ls rest)) : W p l e R s m args below meth c H locs cells slots Q (F0 m pc ls (.int n :: .int dp :: .ref a :: .int sp :: .ref (Y.2.2.2 (100 + r)) :: rest)) := by
  obtain ⟨scr, g1, g2, g3, g4, -, g5, g6⟩ := ((rc_E_S hE).1 r hr).2.2.2.kept (rc_SB hT hE hS).2.1
  exact rc_copyb hexec hb hml hown hlink hnat hstat hini hK hW hS g1 g2 g3 g4 g5 ht h0 he0 hc hframes hlocals hdg kk
/-- from an array of ours -/
theorem rc_copyw (hexec : p.tables.exec = Jvm.exec) (hb : c.code = cc) (hml : c.maxLocals = ls.size) {own : String} {index : Nat} (hown : s.vm.findClass own = some m.cls) (hlink : (Cond.methodLink own index arraycopyName).before args s = true) (hnat : (Cond.native arraycopyName).before args s = true) (hstat : (Cond.static arraycopyName).before args s = true) (hini : (Cond.initialized "java/lang/System").before args s = true)
    (hK : va_K Y.2.1 vwCl (rc_tys Y.2.2.1) s) (hW : rc_W Y sh rf σ H) {sz : Nat} {H0 : Heap} (hS : va_S (rc_A sh sz) H0 H locs) {b t2 n0 : Nat} (hb2 : sh b = t2) (h20 : t2 ≠ 0) (he2 : ∀ r : Nat → Int32, rc_C Y.2.2.1 t2 r (rf b) = .inl (Y.2.2.1 3, n0, .inl r))
    {t n1 : Nat} (ht : sh a = t) (h0 : t ≠ 0) (he0 : ∀ r : Nat → Int32, rc_C Y.2.2.1 t r (rf a) = .inl (Y.2.2.1 3, n1, .inl r)) {sp dp n : Int32} (hc : rc_cpk (σ b) sp dp n n0 n1 = true)
    (hframes : 1 ≤ R.frames) (hlocals : (rest.map fun v => v.category).sum + (nativeFrameWords "java/lang/System" "arraycopy" 5 + 11) ≤ R.locals) (hdg : decode cc pc = .ok (.invokestatic index, 3))
    (kk : ∀ (σ1 : rc_S) (H1 : Heap) (locs1 : List Loc), σ1 = rc_row σ a (va_cpy (σ b) (σ a) sp.toNatClampNeg dp.toNatClampNeg n.toNatClampNeg) → rc_W Y sh rf σ1 H1 → va_S (rc_A sh sz) H0 H1 locs1 → W p l e R s m args below meth c H1 locs1 cells slots Q (F0 m (pc + 3) ls rest)) : W p l e R s m args below meth c H locs cells slots Q (F0 m pc ls (.int n :: .int dp :: .ref a :: .int sp :: .ref b :: rest)) := by
  have hc0 : H[b]? = some (vp_cell (Y.2.2.1 3) (n0, .inl (σ b))) := rc_one hW hb2 h20 (he2 (σ b)) 0 _ rfl
  exact rc_copyb hexec hb hml hown hlink hnat hstat hini hK hW hS hc0 ((hK.2 3 _ rfl).1 n0 (fun j => .int (σ b j))) (fun h => by cases h) (by show _ ≤ (arrV (Y.2.2.1 3) n0 (fun j => .int (σ b j))).slots.size; rw [arrV_size]; exact Nat.le_refl _) (fun j hj => arrV_read _ _ hj) ht h0 he0 hc hframes hlocals hdg kk
end RCC
