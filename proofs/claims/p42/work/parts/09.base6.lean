/-! texts of the class; doubles and floats as answers -/
/-- a text by its number, or null -/
def rc_sv (Y : rc_Y) (j : Nat) : Option Nat := if j < 13 then some (Y.2.2.2 j) else none
theorem rc_svr {Y : rc_Y} {j : Nat} (h : j < 13) : va_rf (rc_sv Y j) = .ref (Y.2.2.2 j) := by rw [rc_sv, if_pos h]; rfl
section RCT2
variable {p : Program} {l : Launch} {e : Env} {R : Room} {s : State} {m : MethodId} {args : Array Value} {below : List Frame} {meth : Method} {c : Code} {H : Heap} {locs : List Loc} {cells slots : Nat} {Q : State → Prop}
variable {cc : ByteArray} {pc : Nat} {ls : Array Slot} {rest : List Value} {Y : rc_Y} {sh : Nat → Nat} {rf : rc_F} {σ σ' σ1 : rc_S} {a sz : Nat}
theorem rc_preVs (hT : rc_T Y sh rf) (hW : rc_W Y sh rf σ H) (hK : va_K Y.2.1 vwCl (rc_tys Y.2.2.1) s) (hE : rc_E Y s s.heap) (hS : va_S (rc_A sh s.heap.size) s.heap H locs) {i : Nat} (hi : i < 13) (As : List Value) : PreV s H "java/lang/String" (Y.2.2.2 i) (rc_P Y sh rf σ H.size (.ref (Y.2.2.2 i) :: As)) As :=
  ⟨rc_blind, vk_recv (rc_E_S hE) hi (rc_SB hT hE hS), fun U hU hwm => rc_pre hT hW hK hE hS _ U hU hwm⟩
theorem rc_esret {C : String} {v : Value} {j r : Nat} {mc ms : Nat} (hx : p.tables.exec = Jvm.exec) (hb : c.code = cc) (hr : meth.sig.returnType = some (.object C)) (hlocks : meth.locks = false) (hW : rc_W Y sh rf σ H) (hS : va_S (rc_A sh s.heap.size) s.heap H locs) (hc : cells ≤ mc) (hs : slots ≤ ms) (hv : v = va_rf (rc_sv Y j)) (hm : some (j, σ) = some (r, σ')) (hdg : decode cc pc = .ok (.areturn, 1)) :
    W p l e R s m args below meth c H locs cells slots (MQ below (va_Qq (fun (q : Option Nat) (_ : Unit) => q = rc_sv Y r) (fun _ t => rc_W Y sh rf σ' t.heap) (rc_A sh s.heap.size)) args s mc ms (rc_A sh s.heap.size)) (F0 m pc ls [v]) := by
  cases hm
  subst hv
  refine W.widen hc hs ?_
  refine W.aret (v := va_rf (rc_sv Y j)) hx hb hr (Or.inl ⟨_, rfl⟩) ?_ (fun t ht _ => ⟨⟨rc_sv Y j, (), rfl, rfl, show rc_W Y sh rf σ t.heap by rw [ht]; exact hW⟩, hS.F ht⟩) hS.2.2 hdg hlocks
  cases rc_sv Y j with
  | none => exact Or.inl rfl
  | some q => exact Or.inr ⟨q, rfl⟩
theorem rc_cq {mc ms : Nat} {st0 : List Value} {av : Array Value} {v : Nat} (hS : va_S (rc_A sh s.heap.size) s.heap H locs)
    (hr : va_Run p l e R s m args below meth c H locs cells slots mc ms (F0 m pc ls st0) rest (va_Qq (fun (q : Option Nat) (_ : Unit) => q = rc_sv Y v) (fun _ t => rc_W Y sh rf σ1 t.heap) (rc_A sh H.size) av) (rc_A sh H.size))
    (kk : ∀ (H1 : Heap) (locs1 : List Loc), rc_W Y sh rf σ1 H1 → va_S (rc_A sh s.heap.size) s.heap H1 locs1 → W p l e R s m args below meth c H1 locs1 (cells + mc) (slots + ms) Q (F0 m (pc + 3) ls (va_rf (rc_sv Y v) :: rest))) : W p l e R s m args below meth c H locs cells slots Q (F0 m pc ls st0) :=
  va_callq hr hS rc_Ain (rc_Afr hS) (fun q u t H1 locs1 ht _ hp hB _ _ hS1 => by
    subst hp
    exact kk H1 locs1 (by rw [← ht]; exact hB) hS1)
theorem rc_edret {v r : UInt64} {mc ms : Nat} (hx : p.tables.exec = Jvm.exec) (hb : c.code = cc) (hr : meth.sig.returnType = some .double) (hlocks : meth.locks = false) (hW : rc_W Y sh rf σ H) (hS : va_S (rc_A sh s.heap.size) s.heap H locs) (hc : cells ≤ mc) (hs : slots ≤ ms) (hm : some (v, σ) = some (r, σ')) (hdg : decode cc pc = .ok (.dreturn, 1)) :
    W p l e R s m args below meth c H locs cells slots (MQ below (va_Qd (fun (r' : UInt64) (_ : Unit) => r' = r) (fun _ t => rc_W Y sh rf σ' t.heap) (rc_A sh s.heap.size)) args s mc ms (rc_A sh s.heap.size)) (F0 m pc ls [.double v]) := by
  cases hm
  refine W.widen hc hs ?_
  exact W.dret (v := v) hx hb hr (fun t ht _ => ⟨⟨v, (), rfl, rfl, show rc_W Y sh rf σ t.heap by rw [ht]; exact hW⟩, hS.F ht⟩) hS.2.2 hdg hlocks
theorem rc_efret {v r : UInt32} {mc ms : Nat} (hx : p.tables.exec = Jvm.exec) (hb : c.code = cc) (hr : meth.sig.returnType = some .float) (hlocks : meth.locks = false) (hW : rc_W Y sh rf σ H) (hS : va_S (rc_A sh s.heap.size) s.heap H locs) (hc : cells ≤ mc) (hs : slots ≤ ms) (hm : some (v, σ) = some (r, σ')) (hdg : decode cc pc = .ok (.freturn, 1)) :
    W p l e R s m args below meth c H locs cells slots (MQ below (va_Qf (fun (r' : UInt32) (_ : Unit) => r' = r) (fun _ t => rc_W Y sh rf σ' t.heap) (rc_A sh s.heap.size)) args s mc ms (rc_A sh s.heap.size)) (F0 m pc ls [.float v]) := by
  cases hm
  refine W.widen hc hs ?_
  exact W.fret (v := v) hx hb hr (fun t ht _ => ⟨⟨v, (), rfl, rfl, show rc_W Y sh rf σ t.heap by rw [ht]; exact hW⟩, hS.F ht⟩) hS.2.2 hdg hlocks
theorem rc_xdret {v r : UInt64} {k mc ms : Nat} (hx : p.tables.exec = Jvm.exec) (hb : c.code = cc) (hr : meth.sig.returnType = some .double) (hlocks : meth.locks = false) (hW : rc_W Y sh rf σ H) (hS : va_S (rc_A sh s.heap.size) s.heap H locs) (hc : cells ≤ mc) (hs : slots ≤ ms) (hm : some (0, v, σ) = some (k, r, σ')) (hdg : decode cc pc = .ok (.dreturn, 1)) :
    W p l e R s m args below meth c H locs cells slots (vx_MQ below (va_Qd (fun (r' : UInt64) (_ : Unit) => k = 0 ∧ r' = r) (fun _ t => rc_W Y sh rf σ' t.heap) (rc_A sh s.heap.size)) (rc_XC Y sh rf σ' k s.heap.size) args s mc ms (rc_A sh s.heap.size)) (F0 m pc ls [.double v]) := by
  cases hm
  refine vx_ret (W.widen hc hs ?_)
  exact W.dret (v := v) hx hb hr (fun t ht _ => ⟨⟨v, (), rfl, ⟨rfl, rfl⟩, show rc_W Y sh rf σ t.heap by rw [ht]; exact hW⟩, hS.F ht⟩) hS.2.2 hdg hlocks
theorem rc_xfret {v r : UInt32} {k mc ms : Nat} (hx : p.tables.exec = Jvm.exec) (hb : c.code = cc) (hr : meth.sig.returnType = some .float) (hlocks : meth.locks = false) (hW : rc_W Y sh rf σ H) (hS : va_S (rc_A sh s.heap.size) s.heap H locs) (hc : cells ≤ mc) (hs : slots ≤ ms) (hm : some (0, v, σ) = some (k, r, σ')) (hdg : decode cc pc = .ok (.freturn, 1)) :
    W p l e R s m args below meth c H locs cells slots (vx_MQ below (va_Qf (fun (r' : UInt32) (_ : Unit) => k = 0 ∧ r' = r) (fun _ t => rc_W Y sh rf σ' t.heap) (rc_A sh s.heap.size)) (rc_XC Y sh rf σ' k s.heap.size) args s mc ms (rc_A sh s.heap.size)) (F0 m pc ls [.float v]) := by
  cases hm
  refine vx_ret (W.widen hc hs ?_)
  exact W.fret (v := v) hx hb hr (fun t ht _ => ⟨⟨v, (), rfl, ⟨rfl, rfl⟩, show rc_W Y sh rf σ t.heap by rw [ht]; exact hW⟩, hS.F ht⟩) hS.2.2 hdg hlocks
end RCT2
theorem rc_narb {v : Int32} (h : vp_nar .byte v = v) : narrow .byte (.int v) = .int v := congrArg Value.int h
