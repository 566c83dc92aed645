section RCX
variable {p : Program} {l : Launch} {e : Env} {R : Room} {s : State} {m : MethodId} {args : Array Value} {below : List Frame} {meth : Method} {c : Code} {H : Heap} {locs : List Loc} {cells slots : Nat} {Q : State → Prop}
variable {cc : ByteArray} {pc : Nat} {ls : Array Slot} {rest : List Value} {Y : rc_Y} {sh : Nat → Nat} {rf : rc_F} {σ σ' σ1 : rc_S} {a sz : Nat}
/-- thrown: the class of number k, the world as σ' says -/
def rc_XC (Y : rc_Y) (sh : Nat → Nat) (rf : rc_F) (σ' : rc_S) (k sz : Nat) : String → State → State → Prop := vx_X (fun (_ : Unit) => k ≠ 0) (fun E _ t => E = rc_xn k ∧ rc_W Y sh rf σ' t.heap) (rc_A sh sz)
theorem rc_SB (hT : rc_T Y sh rf) (hE : rc_E Y s s.heap) (hS : va_S (rc_A sh s.heap.size) s.heap H locs) : va_S (fun q => Y.1 ≤ q) s.heap H locs := ⟨hS.1, fun q h1 h2 => rc_below hT hE hS q h1 h2, fun l h => by
  rcases hS.2.2 l h with z | z
  · exact rc_t_b hT z
  · exact Nat.le_trans hE.1 z⟩
theorem rc_xiret {v r : Int32} {k mc ms : Nat} (hx : p.tables.exec = Jvm.exec) (hb : c.code = cc) (hr : meth.sig.returnType = some .int) (hlocks : meth.locks = false) (hW : rc_W Y sh rf σ H) (hS : va_S (rc_A sh s.heap.size) s.heap H locs) (hc : cells ≤ mc) (hs : slots ≤ ms) (hm : some (0, v, σ) = some (k, r, σ')) (hdg : decode cc pc = .ok (.ireturn, 1)) :
    W p l e R s m args below meth c H locs cells slots (vx_MQ below (va_Qi (fun (r' : Int32) (_ : Unit) => k = 0 ∧ r' = r) (fun _ t => rc_W Y sh rf σ' t.heap) (rc_A sh s.heap.size)) (rc_XC Y sh rf σ' k s.heap.size) args s mc ms (rc_A sh s.heap.size)) (F0 m pc ls [.int v]) := by
  cases hm
  refine vx_ret (W.widen hc hs ?_)
  exact W.iret (v := v) hx hb hr (fun t ht _ => ⟨⟨v, (), rfl, ⟨rfl, rfl⟩, show rc_W Y sh rf σ t.heap by rw [ht]; exact hW⟩, hS.F ht⟩) hS.2.2 hdg hlocks
theorem rc_xzret {ty : FieldType} {v r : Int32} {k mc ms : Nat} (hx : p.tables.exec = Jvm.exec) (hb : c.code = cc) (hr : meth.sig.returnType = some ty) (hlocks : meth.locks = false) (hW : rc_W Y sh rf σ H) (hS : va_S (rc_A sh s.heap.size) s.heap H locs) (hc : cells ≤ mc) (hs : slots ≤ ms) (hn : narrow ty (.int v) = .int v) (hm : some (0, v, σ) = some (k, r, σ')) (hdg : decode cc pc = .ok (.ireturn, 1)) :
    W p l e R s m args below meth c H locs cells slots (vx_MQ below (va_Qi (fun (r' : Int32) (_ : Unit) => k = 0 ∧ r' = r) (fun _ t => rc_W Y sh rf σ' t.heap) (rc_A sh s.heap.size)) (rc_XC Y sh rf σ' k s.heap.size) args s mc ms (rc_A sh s.heap.size)) (F0 m pc ls [.int v]) := by
  cases hm
  refine vx_ret (W.widen hc hs ?_)
  exact W.zret (v := v) hx hb hr hn (fun t ht _ => ⟨⟨v, (), rfl, ⟨rfl, rfl⟩, show rc_W Y sh rf σ t.heap by rw [ht]; exact hW⟩, hS.F ht⟩) hS.2.2 hdg hlocks
theorem rc_xaret {C : String} {v r tg : Nat} {k mc ms : Nat} (hx : p.tables.exec = Jvm.exec) (hb : c.code = cc) (hr : meth.sig.returnType = some (.object C)) (hlocks : meth.locks = false) (hW : rc_W Y sh rf σ H) (hS : va_S (rc_A sh s.heap.size) s.heap H locs) (hc : cells ≤ mc) (hs : slots ≤ ms) (htg : sh v = tg) (hm : some (0, v, σ) = some (k, r, σ')) (hdg : decode cc pc = .ok (.areturn, 1)) :
    W p l e R s m args below meth c H locs cells slots (vx_MQ below (va_Qr (fun (_ : Unit) => k = 0) (fun _ a t => (a = r ∧ sh a = tg) ∧ rc_W Y sh rf σ' t.heap) (rc_A sh s.heap.size)) (rc_XC Y sh rf σ' k s.heap.size) args s mc ms (rc_A sh s.heap.size)) (F0 m pc ls [.ref v]) := by
  cases hm
  refine vx_ret (W.widen hc hs ?_)
  exact W.aret (v := .ref v) hx hb hr (Or.inl ⟨_, rfl⟩) (Or.inr ⟨_, rfl⟩) (fun t ht _ => ⟨⟨(), v, rfl, rfl, ⟨rfl, htg⟩, show rc_W Y sh rf σ t.heap by rw [ht]; exact hW⟩, hS.F ht⟩) hS.2.2 hdg hlocks
/-- 'throw new X()' -/
theorem rc_throw {α : Type} {own cls : String} {ik ic n mc ms k : Nat} {d r : α} {Qc : Array Value → State → Outcome → State → Prop} (hx : p.tables.exec = Jvm.exec) (hb : c.code = cc) (hl : l.stackTraces = false) (hT : rc_T Y sh rf) (hE : rc_E Y s s.heap) (hW : rc_W Y sh rf σ H) (hS : va_S (rc_A sh s.heap.size) s.heap H locs)
    (hts : ∀ w ∈ rc_big, w.before args s = true) (hown : s.vm.findClass own = some m.cls) (hn : cls = rc_xn n) (hn0 : n ≠ 0) (hfit : Bundle.fit cls = true) (hk : Cond.classLink own ik cls ∈ rc_big) (hi : Cond.initialized cls ∈ rc_big) (hat : ∀ w ∈ vx_at0 own ic cls ["java/lang/RuntimeException", "java/lang/Exception"], w.before args s = true) (hgd : ∀ w ∈ Cond.classLink own ik cls :: Cond.initialized cls :: vx_at0 own ic cls ["java/lang/RuntimeException", "java/lang/Exception"], vx_ot w = true)
    (hsize : ls.size = c.maxLocals) (d0 : decode cc pc = .ok (.new ik, 3)) (d3 : decode cc (pc + 3) = .ok (.dup, 1)) (d4 : decode cc (pc + 4) = .ok (.invokespecial ic, 3)) (d7 : decode cc (pc + 7) = .ok (.athrow, 1))
    (hout : ∀ x ∈ c.exceptionTable.toList, False) (hR : 5 < R.frames ∧ (rest.map fun v => v.category).sum + 81 ≤ R.locals ∧ cells + 1 ≤ R.cells ∧ slots + 6 ≤ R.slots) (hlocks : meth.locks = false) (hc : cells + 1 ≤ mc) (hs : slots + 6 ≤ ms) (hm : some (n, d, σ) = some (k, r, σ')) :
    W p l e R s m args below meth c H locs cells slots (vx_MQ below Qc (rc_XC Y sh rf σ' k s.heap.size) args s mc ms (rc_A sh s.heap.size)) (F0 m pc ls rest) := by
  cases hm
  refine vx_throw0 hx hb hl hown hfit (by decide) (hts _ hk) (hts _ hi) hat hgd hE.2.1 hE.2.2.1 (rc_SB hT hE hS) hsize d0 d3 d4 d7 (fun x hx => (hout x hx).elim) hR.1 hR.2.1 hR.2.2.1 hR.2.2.2 hlocks (fun t _ hz hq => ?_) hS.2.2 hc hs
  exact ⟨(), hn0, ⟨hn, hW.kept (fun a ha => hq a (hW.lt ha))⟩, Nat.le_trans hS.1 hz, fun q h1 h2 => (hq q (Nat.lt_of_lt_of_le h1 hS.1)).trans (hS.2.1 q h1 h2)⟩
/-- what a callee threw goes on to the caller -/
theorem rc_pass {α : Type} {Qc : Array Value → State → Outcome → State → Prop} {E : String} {ce : Cell} {q : Addr} {k1 k mc ms : Nat} (hout : ∀ x ∈ c.exceptionTable.toList, False) (hlocks : meth.locks = false) (hk0 : k1 ≠ 0) (hk : k1 ≠ 0 → k = k1 ∧ σ' = σ1) (hEn : E = rc_xn k1) (hW : rc_W Y sh rf σ1 H) (hS : va_S (rc_A sh s.heap.size) s.heap H locs) (hcell : H[q]? = some ce) (hv : ce.vm = .none) (hcl : s.vm.findClass E = some ce.cls) (hc : cells ≤ mc) (hs : slots ≤ ms) :
    vx_W p l e R s m args below meth c H locs cells slots (vx_MQ below Qc (rc_XC Y sh rf σ' k s.heap.size) args s mc ms (rc_A sh s.heap.size)) (F0 m pc ls rest) q := by
  obtain ⟨rfl, rfl⟩ := hk hk0
  exact vx_out (fun x hx => (hout x hx).elim) hlocks hcell hv hcl (fun t ht _ => ⟨(), hk0, ⟨hEn, show rc_W Y sh rf _ t.heap by rw [ht]; exact hW⟩, hS.F ht⟩) hS.2.2 hc hs
theorem rc_xci {mc ms MC MS : Nat} {st0 : List Value} {av : Array Value} {v : Int32} {k1 k : Nat} {Qc : Array Value → State → Outcome → State → Prop} (hout : ∀ x ∈ c.exceptionTable.toList, False) (hlocks : meth.locks = false) (hS : va_S (rc_A sh s.heap.size) s.heap H locs) (hk : k1 ≠ 0 → k = k1 ∧ σ' = σ1) (hc : cells + mc ≤ MC) (hs : slots + ms ≤ MS)
    (hr : vx_Run p l e R s m args below meth c H locs cells slots mc ms (F0 m pc ls st0) rest (va_Qi (fun (r' : Int32) (_ : Unit) => k1 = 0 ∧ r' = v) (fun _ t => rc_W Y sh rf σ1 t.heap) (rc_A sh H.size) av) (rc_XC Y sh rf σ1 k1 H.size) (rc_A sh H.size))
    (kk : ∀ (H1 : Heap) (locs1 : List Loc), k1 = 0 → rc_W Y sh rf σ1 H1 → va_S (rc_A sh s.heap.size) s.heap H1 locs1 → W p l e R s m args below meth c H1 locs1 (cells + mc) (slots + ms) (vx_MQ below Qc (rc_XC Y sh rf σ' k s.heap.size) args s MC MS (rc_A sh s.heap.size)) (F0 m (pc + 3) ls (.int v :: rest))) : W p l e R s m args below meth c H locs cells slots (vx_MQ below Qc (rc_XC Y sh rf σ' k s.heap.size) args s MC MS (rc_A sh s.heap.size)) (F0 m pc ls st0) :=
  vx_calli hr hS rc_Ain (rc_Afr hS) rc_Ain (fun E ce q9 u t H1 locs1 ht _ hp hB _ _ hS1 h1 h2 h3 => rc_pass (α := Unit) hout hlocks hp hk hB.1 (by rw [← ht]; exact hB.2) hS1 h1 h2 h3 hc hs) (fun r u t H1 locs1 ht _ hp hB _ _ hS1 => by
    obtain ⟨h0, rfl⟩ := hp
    exact kk H1 locs1 h0 (by rw [← ht]; exact hB) hS1)
theorem rc_xcr {mc ms MC MS tg : Nat} {st0 : List Value} {av : Array Value} {v : Nat} {k1 k : Nat} {Qc : Array Value → State → Outcome → State → Prop} (hout : ∀ x ∈ c.exceptionTable.toList, False) (hlocks : meth.locks = false) (hS : va_S (rc_A sh s.heap.size) s.heap H locs) (hk : k1 ≠ 0 → k = k1 ∧ σ' = σ1) (hc : cells + mc ≤ MC) (hs : slots + ms ≤ MS)
    (hr : vx_Run p l e R s m args below meth c H locs cells slots mc ms (F0 m pc ls st0) rest (va_Qr (fun (_ : Unit) => k1 = 0) (fun _ a t => (a = v ∧ sh a = tg) ∧ rc_W Y sh rf σ1 t.heap) (rc_A sh H.size) av) (rc_XC Y sh rf σ1 k1 H.size) (rc_A sh H.size))
    (kk : ∀ (H1 : Heap) (locs1 : List Loc), k1 = 0 → sh v = tg → rc_W Y sh rf σ1 H1 → va_S (rc_A sh s.heap.size) s.heap H1 locs1 → W p l e R s m args below meth c H1 locs1 (cells + mc) (slots + ms) (vx_MQ below Qc (rc_XC Y sh rf σ' k s.heap.size) args s MC MS (rc_A sh s.heap.size)) (F0 m (pc + 3) ls (.ref v :: rest))) : W p l e R s m args below meth c H locs cells slots (vx_MQ below Qc (rc_XC Y sh rf σ' k s.heap.size) args s MC MS (rc_A sh s.heap.size)) (F0 m pc ls st0) := by
  intro T hT X
  rcases hr T hT X with ⟨v9, st₀, t, T', L, h0, X', hL, e1, e2, ⟨⟨u, ra, hv, hp, hb⟩, hF⟩, st⟩ | ⟨q, st₀, t, T', L, E, ce, h0, X', hL, e1, e2, ⟨u, hp, hb, hF⟩, hce, hcv, hcl, st⟩
  · cases hv
    obtain ⟨⟨he, htg⟩, hb⟩ := hb
    subst he
    obtain ⟨k1', k2, k3⟩ := vx_keep h0 e1 hS rc_Ain (rc_Afr hS) hL hF
    obtain ⟨t2, a1, b1⟩ := kk T'.heap (locs ++ L) hp htg (by rw [e1]; exact hb) k3 T' rfl X'
    exact ⟨t2, st t2 a1, b1⟩
  · obtain ⟨k1', k2, k3⟩ := vx_keep h0 e1 hS rc_Ain (rc_Afr hS) hL hF
    obtain ⟨t2, a1, b1⟩ := rc_pass (p := p) (l := l) (e := e) (R := R) (s := s) (m := m) (args := args) (below := below) (meth := meth) (c := c) (Qc := Qc) (pc := pc) (ls := ls) (rest := rest) (α := Unit) hout hlocks hp hk hb.1 (by rw [e1]; exact hb.2) k3 (by rw [e1]; exact hce) hcv hcl hc hs T' rfl X'
    exact ⟨t2, st.trans a1, b1⟩
end RCX
