/-! THE LAW'S LOOP: what a case is, and what its rows want -/
def lx_case (pc : Nat) : Prop := ∀ (p : Program) (l : Launch) (e : Env) (s : State) (m : MethodId) (below : List Frame) (meth : Method) (c : Code) (H : Heap) (locs : List Loc) (cells slots : Nat) (Q : State → Prop) (ls : Array Slot) (Y : rc_Y) (x N b L : Nat) (xs : Nat → Int32) (dL dD : ClassId),
  lx_C l Y p s m meth c b L x xs dL dD → 4 * N + 4 ≤ L → va_S (rc_A (w_sh x) s.heap.size) s.heap H locs → lx_J Y x dL dD N H → lv_has ls 9 (lx_l b x N) → cells + 3 ≤ 606338 → slots + 18 ≤ 7201315 →
  (∀ (H1 : Heap) (locs1 : List Loc) (ls1 : Array Slot), lx_J Y x dL dD (N + 1) H1 → va_S (rc_A (w_sh x) s.heap.size) s.heap H1 locs1 → lv_has ls1 9 (lx_l b x N) → W p l e room_1 s m #[Value.ref b] below meth c H1 locs1 (cells + 3) (slots + 18) Q (F0 m 2344 ls1 [])) →
  W p l e room_1 s m #[Value.ref b] below meth c H locs cells slots Q (F0 m pc ls [])
theorem lx_01 (v : Int32) : (if v = 0 then (0 : Int32) else 1) = 0 ∨ (if v = 0 then (0 : Int32) else 1) = 1 := by
  by_cases h : v = 0
  · rw [if_pos h]; exact Or.inl rfl
  · rw [if_neg h]; exact Or.inr rfl
theorem lx_ch (v : Int32) : vp_nar .char ((v.toUInt32 % 65536).toInt32) = (v.toUInt32 % 65536).toInt32 := by
  show (((v.toUInt32 % 65536).toInt32).toUInt32 % 65536).toInt32 = (v.toUInt32 % 65536).toInt32
  rw [UInt32.toUInt32_toInt32]
  congr 1
  exact UInt32.toNat_inj.mp (by rw [UInt32.toNat_mod, UInt32.toNat_mod]; exact Nat.mod_mod _ _)
theorem lx_cmp (a : Int) : compare a a = .eq := by simp [compare, compareOfLessAndEq]
theorem lx_nan {a : UInt64} (h : vf_n64 a) : FP.Core.decode FP.Core.b64 a.toNat ≠ .nan := by
  unfold vf_n64 at h
  have h2 := UInt64.le_iff_toNat_le.mp h
  rw [UInt64.toNat_and, show (0x7fffffffffffffff : UInt64).toNat = 2 ^ 63 - 1 from rfl, Nat.and_two_pow_sub_one_eq_mod, show (0x7ff0000000000000 : UInt64).toNat = 9218868437227405312 from rfl] at h2
  generalize a.toNat = n at h2 ⊢
  unfold FP.Core.decode
  have e1 : FP.Core.fieldE FP.Core.b64 n = n / 4503599627370496 % 2048 := rfl
  have e2 : FP.Core.fieldT FP.Core.b64 n = n % 4503599627370496 := rfl
  have e3 : FP.Core.b64.exps - 1 = 2047 := rfl
  rw [e1, e2, e3]
  by_cases c1 : n / 4503599627370496 % 2048 = 2047
  · rw [if_pos c1]
    by_cases c2 : n % 4503599627370496 = 0
    · rw [if_pos c2]; exact fun q => nomatch q
    · omega
  · rw [if_neg c1]
    by_cases c2 : n / 4503599627370496 % 2048 = 0
    · rw [if_pos c2]; exact fun q => nomatch q
    · rw [if_neg c2]; exact fun q => nomatch q
theorem lx_d0 {a : UInt64} (h : vf_n64 a) : Op.cmpValue (FP.dcmp a a) .l = 0 := by
  have hn := lx_nan h
  show Op.cmpValue (FP.Core.order (FP.Core.decode FP.Core.b64 a.toNat) (FP.Core.decode FP.Core.b64 a.toNat)) .l = 0
  generalize FP.Core.decode FP.Core.b64 a.toNat = d at hn
  cases d with
  | nan => exact absurd rfl hn
  | inf t => show Op.cmpValue (some (compare _ _)) .l = 0; rw [lx_cmp]; rfl
  | fin t c q => show Op.cmpValue (some (compare _ _)) .l = 0; rw [lx_cmp]; rfl
section LXB
variable {p : Program} {l : Launch} {e : Env} {R : Room} {s : State} {m : MethodId} {args : Array Value} {below : List Frame} {meth : Method} {c : Code} {H : Heap} {locs : List Loc} {cells slots : Nat} {Q : State → Prop}
variable {cc : ByteArray} {pc : Nat} {ls : Array Slot} {rest : List Value}
theorem lx_b01 (hx : p.tables.exec = Jvm.exec) (hb : c.code = cc) {v : Int32} (h0 : decode cc pc = .ok (.ifCond .eq 7, 3)) (h1 : decode cc (pc + 3) = .ok (.iconst 1, 1)) (h2 : decode cc (pc + 3 + 1) = .ok (.goto 4, 3)) (h3 : decode cc (pc + 7) = .ok (.iconst 0, 1))
    (kk : W p l e R s m args below meth c H locs cells slots Q (F0 m (pc + 8) ls (.int (if v = 0 then 0 else 1) :: rest))) : W p l e R s m args below meth c H locs cells slots Q (F0 m pc ls (.int v :: rest)) := by
  refine lv_if_eq (tgt := pc + 7) hx hb h0 rfl (fun c9 => ?_) (fun c9 => ?_)
  · refine lv_iconst (v := 0) hx hb h3 (by decide) ?_
    rw [if_pos c9] at kk
    exact kk
  · refine lv_iconst (v := 1) hx hb h1 (by decide) ?_
    refine lv_goto (tgt := pc + 8) hx hb h2 (by push_cast; omega) ?_
    rw [if_neg c9] at kk
    exact kk
theorem lx_b01L (hx : p.tables.exec = Jvm.exec) (hb : c.code = cc) {v : Int32} (h0 : decode cc pc = .ok (.ifCond .eq 7, 3)) (h1 : decode cc (pc + 3) = .ok (.lconst 1, 1)) (h2 : decode cc (pc + 3 + 1) = .ok (.goto 4, 3)) (h3 : decode cc (pc + 7) = .ok (.lconst 0, 1))
    (kk : W p l e R s m args below meth c H locs cells slots Q (F0 m (pc + 8) ls (.long (if v = 0 then 0 else 1) :: rest))) : W p l e R s m args below meth c H locs cells slots Q (F0 m pc ls (.int v :: rest)) := by
  refine lv_if_eq (tgt := pc + 7) hx hb h0 rfl (fun c9 => ?_) (fun c9 => ?_)
  · refine lv_lconst (v := 0) hx hb h3 (by decide) ?_
    rw [if_pos c9] at kk
    exact kk
  · refine lv_lconst (v := 1) hx hb h1 (by decide) ?_
    refine lv_goto (tgt := pc + 8) hx hb h2 (by push_cast; omega) ?_
    rw [if_neg c9] at kk
    exact kk
end LXB
