theorem tw_1_23 : (Jvm.Cond.initialized "java/util/Arrays") ∈ rc_big := rc_mem (rc_m1 23 (by decide +kernel)) rfl
theorem tw_2_195 : (Jvm.Cond.instantiable "java/lang/String" (4 : Nat)) ∈ rc_big := rc_mem (rc_m2 195 (by decide +kernel)) rfl
theorem tw_4_176 : (Jvm.Cond.methodLink "java/util/Arrays" (304 : Nat) ({ cls := "java/lang/Math", name := "min", desc := "(II)I" } : Jvm.MethodName)) ∈ rc_big := rc_mem (rc_m4 176 (by decide +kernel)) rfl
theorem tw_4_177 : (Jvm.Cond.methodLink "java/util/Arrays" (150 : Nat) ({ cls := "java/lang/System", name := "arraycopy", desc := "(Ljava/lang/Object;ILjava/lang/Object;II)V" } : Jvm.MethodName)) ∈ rc_big := rc_mem (rc_m4 177 (by decide +kernel)) rfl
theorem tw_5_45 : (Jvm.Cond.classLink "java/lang/StringBuilder" (18 : Nat) "java/lang/String") ∈ rc_big := rc_mem (rc_m5 45 (by decide +kernel)) rfl
theorem tw_5_46 : (Jvm.Cond.methodLink "java/lang/StringBuilder" (137 : Nat) ({ cls := "java/lang/String", name := "<init>", desc := "(Ljava/lang/StringBuilder;)V" } : Jvm.MethodName)) ∈ rc_big := rc_mem (rc_m5 46 (by decide +kernel)) rfl
theorem tw_5_47 : (Jvm.Cond.instanceMethod ({ cls := "java/lang/String", name := "<init>", desc := "(Ljava/lang/StringBuilder;)V" } : Jvm.MethodName)) ∈ rc_big := rc_mem (rc_m5 47 (by decide +kernel)) rfl
theorem tw_5_48 : (Jvm.Cond.code ({ cls := "java/lang/String", name := "<init>", desc := "(Ljava/lang/StringBuilder;)V" } : Jvm.MethodName) prog_29_method_53_code (2 : Nat) (Option.none : Option Jvm.ClassFile.FieldType)) ∈ rc_big := rc_mem (rc_m5 48 (by decide +kernel)) rfl
theorem tw_5_49 : (Jvm.Cond.methodLink "java/lang/String" (489 : Nat) ({ cls := "java/lang/String", name := "<init>", desc := "(Ljava/lang/AbstractStringBuilder;Ljava/lang/Void;)V" } : Jvm.MethodName)) ∈ rc_big := rc_mem (rc_m5 49 (by decide +kernel)) rfl
theorem tw_5_50 : (Jvm.Cond.instanceMethod ({ cls := "java/lang/String", name := "<init>", desc := "(Ljava/lang/AbstractStringBuilder;Ljava/lang/Void;)V" } : Jvm.MethodName)) ∈ rc_big := rc_mem (rc_m5 50 (by decide +kernel)) rfl
theorem tw_5_51 : (Jvm.Cond.code ({ cls := "java/lang/String", name := "<init>", desc := "(Ljava/lang/AbstractStringBuilder;Ljava/lang/Void;)V" } : Jvm.MethodName) prog_29_method_150_code (5 : Nat) (Option.none : Option Jvm.ClassFile.FieldType)) ∈ rc_big := rc_mem (rc_m5 51 (by decide +kernel)) rfl
theorem tw_5_52 : (Jvm.Cond.methodLink "java/lang/String" (1 : Nat) ({ cls := "java/lang/Object", name := "<init>", desc := "()V" } : Jvm.MethodName)) ∈ rc_big := rc_mem (rc_m5 52 (by decide +kernel)) rfl
theorem tw_5_53 : (Jvm.Cond.methodLink "java/lang/String" (552 : Nat) ({ cls := "java/lang/AbstractStringBuilder", name := "getValue", desc := "()[B" } : Jvm.MethodName)) ∈ rc_big := rc_mem (rc_m5 53 (by decide +kernel)) rfl
theorem tw_5_54 : (Jvm.Cond.instanceMethod ({ cls := "java/lang/AbstractStringBuilder", name := "getValue", desc := "()[B" } : Jvm.MethodName)) ∈ rc_big := rc_mem (rc_m5 54 (by decide +kernel)) rfl
theorem tw_5_55 : (Jvm.Cond.sameMethod "java/lang/AbstractStringBuilder" "java/lang/AbstractStringBuilder" "getValue" "()[B") ∈ rc_big := rc_mem (rc_m5 55 (by decide +kernel)) rfl
theorem tw_5_56 : (Jvm.Cond.selects "java/lang/StringBuilder" ({ cls := "java/lang/AbstractStringBuilder", name := "getValue", desc := "()[B" } : Jvm.MethodName) ({ cls := "java/lang/AbstractStringBuilder", name := "getValue", desc := "()[B" } : Jvm.MethodName)) ∈ rc_big := rc_mem (rc_m5 56 (by decide +kernel)) rfl
theorem tw_5_57 : (Jvm.Cond.code ({ cls := "java/lang/AbstractStringBuilder", name := "getValue", desc := "()[B" } : Jvm.MethodName) prog_13_method_64_code (1 : Nat) (Option.some (Jvm.ClassFile.FieldType.array Jvm.ClassFile.FieldType.byte))) ∈ rc_big := rc_mem (rc_m5 57 (by decide +kernel)) rfl
theorem tw_5_58 : (Jvm.Cond.methodLink "java/lang/String" (549 : Nat) ({ cls := "java/lang/AbstractStringBuilder", name := "length", desc := "()I" } : Jvm.MethodName)) ∈ rc_big := rc_mem (rc_m5 58 (by decide +kernel)) rfl
theorem tw_5_61 : (Jvm.Cond.selects "java/lang/StringBuilder" ({ cls := "java/lang/AbstractStringBuilder", name := "length", desc := "()I" } : Jvm.MethodName) ({ cls := "java/lang/StringBuilder", name := "length", desc := "()I" } : Jvm.MethodName)) ∈ rc_big := rc_mem (rc_m5 61 (by decide +kernel)) rfl
theorem tw_5_66 : (Jvm.Cond.methodLink "java/lang/String" (1047 : Nat) ({ cls := "java/lang/AbstractStringBuilder", name := "isLatin1", desc := "()Z" } : Jvm.MethodName)) ∈ rc_big := rc_mem (rc_m5 66 (by decide +kernel)) rfl
theorem tw_5_67 : (Jvm.Cond.methodLink "java/lang/String" (54 : Nat) ({ cls := "java/util/Arrays", name := "copyOfRange", desc := "([BII)[B" } : Jvm.MethodName)) ∈ rc_big := rc_mem (rc_m5 67 (by decide +kernel)) rfl
theorem tw_5_68 : (Jvm.Cond.static ({ cls := "java/util/Arrays", name := "copyOfRange", desc := "([BII)[B" } : Jvm.MethodName)) ∈ rc_big := rc_mem (rc_m5 68 (by decide +kernel)) rfl
theorem tw_5_69 : (Jvm.Cond.code ({ cls := "java/util/Arrays", name := "copyOfRange", desc := "([BII)[B" } : Jvm.MethodName) prog_39_method_132_code (3 : Nat) (Option.some (Jvm.ClassFile.FieldType.array Jvm.ClassFile.FieldType.byte))) ∈ rc_big := rc_mem (rc_m5 69 (by decide +kernel)) rfl
theorem tw_5_70 : (Jvm.Cond.methodLink "java/util/Arrays" (339 : Nat) ({ cls := "java/util/Arrays", name := "copyOfRangeByte", desc := "([BII)[B" } : Jvm.MethodName)) ∈ rc_big := rc_mem (rc_m5 70 (by decide +kernel)) rfl
theorem tw_5_71 : (Jvm.Cond.static ({ cls := "java/util/Arrays", name := "copyOfRangeByte", desc := "([BII)[B" } : Jvm.MethodName)) ∈ rc_big := rc_mem (rc_m5 71 (by decide +kernel)) rfl
theorem tw_5_72 : (Jvm.Cond.code ({ cls := "java/util/Arrays", name := "copyOfRangeByte", desc := "([BII)[B" } : Jvm.MethodName) prog_39_method_133_code (5 : Nat) (Option.some (Jvm.ClassFile.FieldType.array Jvm.ClassFile.FieldType.byte))) ∈ rc_big := rc_mem (rc_m5 72 (by decide +kernel)) rfl
theorem tw_5_73 : (Jvm.Cond.methodLink "java/util/Arrays" (343 : Nat) ({ cls := "java/util/Arrays", name := "checkLength", desc := "(II)V" } : Jvm.MethodName)) ∈ rc_big := rc_mem (rc_m5 73 (by decide +kernel)) rfl
theorem tw_5_74 : (Jvm.Cond.static ({ cls := "java/util/Arrays", name := "checkLength", desc := "(II)V" } : Jvm.MethodName)) ∈ rc_big := rc_mem (rc_m5 74 (by decide +kernel)) rfl
theorem tw_5_75 : (Jvm.Cond.code ({ cls := "java/util/Arrays", name := "checkLength", desc := "(II)V" } : Jvm.MethodName) prog_39_method_131_code (2 : Nat) (Option.none : Option Jvm.ClassFile.FieldType)) ∈ rc_big := rc_mem (rc_m5 75 (by decide +kernel)) rfl
def rc_gc (f : Nat → Int32) (n : Int32) : Nat → Int32 := va_cpy f (fun _ => 0) (0 : Int32).toNatClampNeg (0 : Int32).toNatClampNeg n.toNatClampNeg
theorem rc_mono {A B : Nat → Prop} {H0 H : Heap} {locs : List Loc} (h : va_S A H0 H locs) (hAB : ∀ q, A q → B q) : va_S B H0 H locs := ⟨h.1, fun q h1 h2 => h.2.1 q h1 (fun h3 => h2 (hAB q h3)), fun l hl => hAB _ (h.2.2 l hl)⟩
theorem rc_Sput {A : Nat → Prop} {H0 H H1 : Heap} {locs locs1 : List Loc} {x : Nat} (h : va_S A H0 H locs) (z1 : H1.size = H.size) (o1 : ∀ q : Nat, q ≠ x → H1[q]? = H[q]?) (hl : ∀ l ∈ locs1, l ∈ locs ∨ l.base = x) (hx : A x) : va_S A H0 H1 locs1 := ⟨by rw [z1]; exact h.1, fun q h1 h2 => (o1 q (fun e => h2 (by rw [e]; exact hx))).trans (h.2.1 q h1 h2), fun l h' => (hl l h').elim (h.2.2 l) (fun e => by rw [e]; exact hx)⟩
/-- a String is made and answered -/
def rc_pT (Y : rc_Y) (sh : Nat → Nat) (rf : rc_F) (σ : rc_S) (t : Nat) (g : Nat → Int32) (sz x : Nat) (H : Heap) : Prop := sz ≤ x ∧ rc_pS Y sh rf σ t g sz x H
theorem rc_vretB {p : Program} {l : Launch} {e : Env} {R : Room} {s : State} {m : MethodId} {args : Array Value} {below : List Frame} {meth : Method} {c : Code} {H : Heap} {locs : List Loc} {cells slots : Nat} {cc : ByteArray} {pc : Nat} {ls : Array Slot} {B : Heap → Prop} {A : Nat → Prop} {mc ms : Nat} (hx : p.tables.exec = Jvm.exec) (hb : c.code = cc) (hr : meth.sig.returnType = none) (hlocks : meth.locks = false) (hB : B H) (hS : va_S A s.heap H locs) (hc : cells ≤ mc) (hs : slots ≤ ms) (hdg : decode cc pc = .ok (.return_, 1)) :
    W p l e R s m args below meth c H locs cells slots (MQ below (va_Qv (fun (_ : Unit) => True) (fun _ t => B t.heap) A) args s mc ms A) (F0 m pc ls []) := by
  refine W.widen hc hs ?_
  exact W.vret hx hb hr (fun t ht _ => ⟨⟨(), rfl, trivial, show B t.heap by rw [ht]; exact hB⟩, hS.F ht⟩) hS.2.2 hdg hlocks

set_option maxHeartbeats 4000000 in
set_option maxRecDepth 100000 in
theorem kn_J7_copyOfRangeByte_39247_12 (l : Launch) {Y : rc_Y} {sh : Nat → Nat} {rf : rc_F} (hT : rc_T Y sh rf) (q0 : Nat) (hq0 : sh q0 = 24) (sz : Nat) (σ : rc_S) (hfit : rc_cpk (σ q0) (0 : Int32) (0 : Int32) (2 : Int32) 16 2 = true) : Met l yJ7_copyOfRangeByte_39247 (Cond.code yJ7_copyOfRangeByte_39247 cJ7_copyOfRangeByte_39247 5 (some (.array .byte)) :: rc_big) ({ frames := 1, cells := 1, slots := 2, locals := 40 } : Room) (rc_P Y sh rf σ sz [.ref q0, .int 0, .int 2]) (va_Qr (fun (_ : Unit) => True) (fun _ a t => rc_pB Y sh rf σ 32 (rc_gc (σ q0) 2) sz a t.heap) (rc_A sh sz)) 1 2 (rc_A sh sz) := by
  refine rc_ofWF (cc := cJ7_copyOfRangeByte_39247) (maxL := 5) (ret := (some (.array .byte))) (by decide +kernel) rfl ?_
  intro p e s m args below meth c s₁ B hml hv
  obtain ⟨rfl, hsz, hW, hK, hE⟩ := hv
  have hx := B.exec
  have hb := B.bytes
  have hr := B.returns
  have hts : ∀ w ∈ rc_big, w.before _ s = true := fun w h => atoms_spec (ws := Cond.code yJ7_copyOfRangeByte_39247 cJ7_copyOfRangeByte_39247 5 (some (.array .byte)) :: rc_big) B.pre w (List.mem_cons_of_mem _ h)
  have hown : s.vm.findClass RJ7 = some m.cls := findClass_of_methodNamed B.named
  have hlocks := B.notSynchronized
  clear B
  subst hsz
  have hl := lv_entry ([.ref q0, .int 0, .int 2]) (n := 5) (Nat.le_of_ble_eq_true rfl)
  rw [lg_entry_eq]
  generalize (lg_sl ([.ref q0, .int 0, .int 2]) ++ List.replicate (5 - (lg_sl ([.ref q0, .int 0, .int 2])).length) Slot.unset).toArray = ls at hl ⊢
  have hl : lv_has ls 5 [(0, .ref q0), (1, .int 0), (2, .int 2)] := hl
  have hS : va_S (rc_A sh s.heap.size) s.heap s.heap [] := va_S.rf
  refine lv_iload_n hx hb dJ7_copyOfRangeByte_39247_0 rfl (lv_at hl 1 rfl) ?_
  refine lv_iload_n hx hb dJ7_copyOfRangeByte_39247_1 rfl (lv_at hl 2 rfl) ?_
  have hc_1 : f_J7_checkLength_df160 rf 0 2 σ = some ((), σ) := if_pos (by decide)
  refine rc_cv hS (va_runS (As := [.int 0, .int 2]) (rest := []) ⟨hx, hb, hml, hown, hts⟩ (k_J7_checkLength_df160 l hT 0 2  s.heap.size _ _ _ hc_1) (va_cwS 2 hts (rc_gS tw_5_73 tw_5_74 tw_1_23 tw_5_75) rfl rfl rfl (by decide +kernel) ⟨Nat.le_of_ble_eq_true rfl, Nat.le_of_ble_eq_true rfl⟩) (rc_preS hT hW hK hE hS [.int 0, .int 2]) rfl rfl hl.1 rfl (lv_room (Nat.le_of_ble_eq_true rfl)) dJ7_copyOfRangeByte_39247_2 ⟨Nat.le_of_ble_eq_true rfl, Nat.le_of_ble_eq_true rfl⟩) (fun H locs hW hS => ?_)
  refine lv_iload_n hx hb dJ7_copyOfRangeByte_39247_5 rfl (lv_at hl 2 rfl) ?_
  refine lv_iload_n hx hb dJ7_copyOfRangeByte_39247_6 rfl (lv_at hl 1 rfl) ?_
  refine lv_isub hx hb dJ7_copyOfRangeByte_39247_7 ?_
  rw [show ((2 - 0) : Int32) = 2 from by decide]
  refine lv_istore_n (lv' := [(3, .int (2 : Int32)), (0, .ref q0), (1, .int 0), (2, .int 2)]) hx hb dJ7_copyOfRangeByte_39247_8 rfl hl (by decide) rfl (fun ls hl => ?_)
  refine lv_iload_n hx hb dJ7_copyOfRangeByte_39247_9 rfl (lv_at hl 0 rfl) ?_
  refine rc_newaR hx hb (hts _ tw_2_81) hK (by decide) (show (2 : Int32).toNatClampNeg = 2 by decide) (by decide) (Nat.le_of_ble_eq_true rfl) (Nat.le_of_ble_eq_true rfl) dJ7_copyOfRangeByte_39247_10 (fun H1 hat z1 o1 => ?_)
  have hsz : s.heap.size ≤ H.size := hS.1
  have hYz : Y.1 ≤ H.size := Nat.le_trans hE.1 hS.1
  have h0z : sh H.size = 0 := Classical.byContradiction (fun h => Nat.lt_irrefl _ (hW.lt h))
  have hlt : ∀ q, sh q ≠ 0 → q < H.size := fun q h => hW.lt h
  have hS1 : va_S (rc_A sh s.heap.size) s.heap H1 locs := ⟨by rw [z1]; exact Nat.le_succ_of_le hS.1, fun q g1 g2 => (o1 q (Nat.lt_of_lt_of_le g1 hS.1)).trans (hS.2.1 q g1 g2), hS.2.2⟩
  generalize H.size = z at hat z1 o1 hsz hYz h0z hlt ⊢
  have hqz : q0 ≠ z := fun e => by rw [e, h0z] at hq0; cases hq0
  obtain ⟨σz, hσz⟩ : ∃ σz : rc_S, σz = rc_row σ z (fun _ => 0) := ⟨_, rfl⟩
  have hW1 : rc_W Y (rc_xs sh z 32) rf σz H1 := rc_xsW (σ1 := σz) hW h0z (fun q h => o1 q (hlt q h)) (by rw [hσz]; unfold rc_row; rw [if_pos rfl]; exact hat) (fun q h => by rw [hσz]; exact if_neg h) (fun _ _ => rfl)
  have hT0 := hT
  have hT := rc_xsT hT h0z hYz (t := 32) (by decide)
  have hW := hW1
  have hS : va_S (rc_A (rc_xs sh z 32) s.heap.size) s.heap H1 locs := by rw [rc_xsA hsz]; exact hS1
  have hq0 := rc_xk (a := z) (t := 32) h0z hq0 (by decide)
  have hzz : rc_xs sh z 32 z = 32 := rc_xs_e
  refine lv_astore (lv' := [(4, .ref z), (3, .int (2 : Int32)), (0, .ref q0), (1, .int 0), (2, .int 2)]) hx hb dJ7_copyOfRangeByte_39247_12 hl (by decide) rfl (fun ls hl => ?_)
  refine lv_aload_n hx hb dJ7_copyOfRangeByte_39247_14 rfl (lv_at hl 2 rfl) ?_
  refine lv_iload_n hx hb dJ7_copyOfRangeByte_39247_15 rfl (lv_at hl 3 rfl) ?_
  refine lv_aload hx hb dJ7_copyOfRangeByte_39247_16 (lv_at hl 0 rfl) ?_
  refine lv_iconst (v := 0) hx hb dJ7_copyOfRangeByte_39247_18 (by decide) ?_
  refine lv_aload_n hx hb dJ7_copyOfRangeByte_39247_19 rfl (lv_at hl 2 rfl) ?_
  refine rc_alen (v := 16) hx hb hK hW hq0 (by decide) rfl 3 rfl rfl dJ7_copyOfRangeByte_39247_20 ?_
  refine lv_iload_n hx hb dJ7_copyOfRangeByte_39247_21 rfl (lv_at hl 3 rfl) ?_
  refine lv_isub hx hb dJ7_copyOfRangeByte_39247_22 ?_
  rw [show (((16 : Int32) - 0) : Int32) = 16 from by decide]
  refine lv_iload_n hx hb dJ7_copyOfRangeByte_39247_23 rfl (lv_at hl 1 rfl) ?_
  refine va_mmin hx hb (hml.trans hl.1.symm) hown (hts _ tw_4_176) (hts _ tw_3_31) (hts _ tw_1_22) (hts _ tw_3_32) (Nat.le_of_ble_eq_true rfl) (Nat.le_of_ble_eq_true rfl) (Nat.le_of_ble_eq_true rfl) (Nat.le_of_ble_eq_true rfl) dJ7_copyOfRangeByte_39247_24 ?_
  rw [show ((if (2 : Int32) < (16 : Int32) then (2 : Int32) else (16 : Int32)) : Int32) = 2 from by decide]
  have hq : rc_cpk (σz q0) (0 : Int32) (0 : Int32) (2 : Int32) 16 2 = true := by
    rw [hσz]; unfold rc_row; rw [if_neg hqz]; exact hfit
  refine rc_copyw hx hb (hml.trans hl.1.symm) hown (hts _ tw_4_177) (hts _ tw_4_179) (hts _ tw_4_178) (hts _ tw_1_24) hK hW hS hq0 (by decide) (fun _ => rfl) hzz (by decide) (fun _ => rfl) hq (Nat.le_of_ble_eq_true rfl) (Nat.le_of_ble_eq_true rfl) dJ7_copyOfRangeByte_39247_27 (fun σ2 H locs eσ hW hS => ?_)
  refine lv_aload hx hb dJ7_copyOfRangeByte_39247_30 (lv_at hl 0 rfl) ?_
  rw [rc_xsA hsz] at hS
  refine rc_rret (B := rc_pB Y sh rf σ 32 (rc_gc (σ q0) 2) s.heap.size) hx hb hr (Or.inr ⟨_, rfl⟩) hlocks ⟨hsz, ?_⟩ hS (Nat.le_of_ble_eq_true rfl) (Nat.le_of_ble_eq_true rfl) dJ7_copyOfRangeByte_39247_32
  have ee : σ2 = rc_row σ z (rc_gc (σ q0) 2) := by
    rw [eσ, hσz]
    funext b
    unfold rc_row rc_gc
    by_cases h : b = z
    · rw [if_pos h, if_pos h, if_pos rfl, if_neg hqz]
    · rw [if_neg h, if_neg h, if_neg h]
  rw [← ee]
  exact hW
set_option maxHeartbeats 4000000 in
set_option maxRecDepth 100000 in
theorem kn_J7_copyOfRange_39247_12 (l : Launch) {Y : rc_Y} {sh : Nat → Nat} {rf : rc_F} (hT : rc_T Y sh rf) (q0 : Nat) (hq0 : sh q0 = 24) (sz : Nat) (σ : rc_S) (hfit : rc_cpk (σ q0) (0 : Int32) (0 : Int32) (2 : Int32) 16 2 = true) : Met l yJ7_copyOfRange_39247 (Cond.code yJ7_copyOfRange_39247 cJ7_copyOfRange_39247 3 (some (.array .byte)) :: rc_big) ({ frames := 2, cells := 1, slots := 2, locals := 64 } : Room) (rc_P Y sh rf σ sz [.ref q0, .int 0, .int 2]) (va_Qr (fun (_ : Unit) => True) (fun _ a t => rc_pB Y sh rf σ 32 (rc_gc (σ q0) 2) sz a t.heap) (rc_A sh sz)) 1 2 (rc_A sh sz) := by
  refine rc_ofWF (cc := cJ7_copyOfRange_39247) (maxL := 3) (ret := (some (.array .byte))) (by decide +kernel) rfl ?_
  intro p e s m args below meth c s₁ B hml hv
  obtain ⟨rfl, hsz, hW, hK, hE⟩ := hv
  have hx := B.exec
  have hb := B.bytes
  have hr := B.returns
  have hts : ∀ w ∈ rc_big, w.before _ s = true := fun w h => atoms_spec (ws := Cond.code yJ7_copyOfRange_39247 cJ7_copyOfRange_39247 3 (some (.array .byte)) :: rc_big) B.pre w (List.mem_cons_of_mem _ h)
  have hown : s.vm.findClass RJ7 = some m.cls := findClass_of_methodNamed B.named
  have hlocks := B.notSynchronized
  clear B
  subst hsz
  have hl := lv_entry ([.ref q0, .int 0, .int 2]) (n := 3) (Nat.le_of_ble_eq_true rfl)
  rw [lg_entry_eq]
  generalize (lg_sl ([.ref q0, .int 0, .int 2]) ++ List.replicate (3 - (lg_sl ([.ref q0, .int 0, .int 2])).length) Slot.unset).toArray = ls at hl ⊢
  have hl : lv_has ls 3 [(0, .ref q0), (1, .int 0), (2, .int 2)] := hl
  have hS : va_S (rc_A sh s.heap.size) s.heap s.heap [] := va_S.rf
  refine lv_iload_n hx hb dJ7_copyOfRange_39247_0 rfl (lv_at hl 1 rfl) ?_
  refine lv_if_ne (tgt := 10) hx hb dJ7_copyOfRange_39247_1 (by decide) (fun c9 => absurd c9 (by decide)) (fun _ => ?_)
  refine lv_iload_n hx hb dJ7_copyOfRange_39247_4 rfl (lv_at hl 2 rfl) ?_
  refine lv_aload_n hx hb dJ7_copyOfRange_39247_5 rfl (lv_at hl 0 rfl) ?_
  refine rc_alen (v := 16) hx hb hK hW hq0 (by decide) rfl 3 rfl rfl dJ7_copyOfRange_39247_6 ?_
  refine lv_icmp_eq (tgt := 17) hx hb dJ7_copyOfRange_39247_7 (by decide) (fun c9 => absurd c9 (by decide)) (fun _ => ?_)
  refine lv_aload_n hx hb dJ7_copyOfRange_39247_10 rfl (lv_at hl 0 rfl) ?_
  refine lv_iload_n hx hb dJ7_copyOfRange_39247_11 rfl (lv_at hl 1 rfl) ?_
  refine lv_iload_n hx hb dJ7_copyOfRange_39247_12 rfl (lv_at hl 2 rfl) ?_
  refine rc_rcall (B := rc_pB Y sh rf σ 32 (rc_gc (σ q0) 2) s.heap.size) hS rc_Ain (fun q h => Or.inr h) (rc_Afr hS) (va_runS (As := [.ref q0, .int 0, .int 2]) (rest := []) ⟨hx, hb, hml, hown, hts⟩ (kn_J7_copyOfRangeByte_39247_12 l hT q0 hq0 s.heap.size σ hfit) (va_cwS 3 hts (rc_gS tw_5_70 tw_5_71 tw_1_23 tw_5_72) rfl rfl rfl (by decide +kernel) ⟨Nat.le_of_ble_eq_true rfl, Nat.le_of_ble_eq_true rfl⟩) (rc_preS hT hW hK hE hS [.ref q0, .int 0, .int 2]) rfl rfl hl.1 rfl (lv_room (Nat.le_of_ble_eq_true rfl)) dJ7_copyOfRange_39247_13 ⟨Nat.le_of_ble_eq_true rfl, Nat.le_of_ble_eq_true rfl⟩) (fun v H locs hB _ _ hS => ?_)
  exact rc_rret (B := rc_pB Y sh rf σ 32 (rc_gc (σ q0) 2) s.heap.size) hx hb hr (Or.inr ⟨_, rfl⟩) hlocks hB hS (Nat.le_of_ble_eq_true rfl) (Nat.le_of_ble_eq_true rfl) dJ7_copyOfRange_39247_16
set_option maxHeartbeats 4000000 in
set_option maxRecDepth 100000 in
theorem kn_J0_init_db425_12 (l : Launch) {Y : rc_Y} {sh : Nat → Nat} {rf : rc_F} (hT : rc_T Y sh rf) (x sb : Nat) (hx0 : sh x = 0) (hYx : Y.1 ≤ x) (hsb : sh sb = 11) (sz : Nat) (σ : rc_S) (hs1 : σ sb 1 = 0) (hs3 : σ sb 3 = 2) (hfit : rc_cpk (σ (rf sb 0)) (0 : Int32) (0 : Int32) (2 : Int32) 16 2 = true) : Met l yJ0_init_db425 (Cond.code yJ0_init_db425 cJ0_init_db425 5 none :: rc_big) ({ frames := 3, cells := 1, slots := 2, locals := 95 } : Room) (rc_Px Y sh rf σ sz x 0 [.null, .int 0, .int 0, .int 0] [.ref x, .ref sb, .null]) (va_Qv (fun (_ : Unit) => True) (fun _ t => rc_pS Y sh rf σ 12 (rc_gc (σ (rf sb 0)) 2) sz x t.heap) (rc_A (rc_xs sh x 12) sz)) 1 2 (rc_A (rc_xs sh x 12) sz) := by
  refine rc_ofWF (cc := cJ0_init_db425) (maxL := 5) (ret := none) (by decide +kernel) rfl ?_
  intro p e s m args below meth c s₁ B hml hv
  obtain ⟨rfl, hsz, ⟨hW, hK, hE⟩, hX⟩ := hv
  have hx := B.exec
  have hb := B.bytes
  have hr := B.returns
  have hts : ∀ w ∈ rc_big, w.before _ s = true := fun w h => atoms_spec (ws := Cond.code yJ0_init_db425 cJ0_init_db425 5 none :: rc_big) B.pre w (List.mem_cons_of_mem _ h)
  have hown : s.vm.findClass RJ0 = some m.cls := findClass_of_methodNamed B.named
  have hin : meth.name = "<init>" := (name_of_methodNamed B.named B.method).1
  have hlocks := B.notSynchronized
  clear B
  subst hsz
  have hl := lv_entry ([.ref x, .ref sb, .null]) (n := 5) (Nat.le_of_ble_eq_true rfl)
  rw [lg_entry_eq]
  generalize (lg_sl ([.ref x, .ref sb, .null]) ++ List.replicate (5 - (lg_sl ([.ref x, .ref sb, .null])).length) Slot.unset).toArray = ls at hl ⊢
  have hl : lv_has ls 5 [(0, .ref x), (1, .ref sb), (2, .null)] := hl
  have hS : va_S (rc_A (rc_xs sh x 12) s.heap.size) s.heap s.heap [] := va_S.rf
  have hxl : x < s.heap.size := hX.lt
  have hAB : ∀ q, rc_A (rc_xs sh x 12) s.heap.size q → Y.1 ≤ q := fun q h => by
    rcases h with h | h
    · by_cases e : q = x
      · rw [e]; exact hYx
      · rw [rc_xs_n e] at h; exact rc_t_b hT h
    · exact Nat.le_trans hE.1 h
  have hAs : ∀ n, s.heap.size ≤ n → ∀ q, rc_A sh n q → rc_A (rc_xs sh x 12) s.heap.size q := fun n hn q h => by
    rcases h with h | h
    · left
      by_cases e : q = x
      · rw [e, rc_xs_e]; decide
      · rw [rc_xs_n e]; exact h
    · exact Or.inr (Nat.le_trans hn h)
  have hB := rc_mono hS hAB
  refine lv_aload_n hx hb dJ0_init_db425_0 rfl (lv_at hl 0 rfl) ?_
  refine W.objInit hx hb hown (hts _ tw_5_52) (hts _ tw_1_40) (hts _ tw_1_41) rfl (by rw [hml]; exact hl.1) rfl dJ0_init_db425_1 (Nat.le_of_ble_eq_true rfl) (Nat.le_of_ble_eq_true rfl) ?_
  refine W.eq (g2 := F0 m 4 ls []) rfl ?_
  refine lv_aload_n hx hb dJ0_init_db425_4 rfl (lv_at hl 1 rfl) ?_
  have hc : f_J5_getValue_6d5f1 rf sb σ = some (rf sb 0, σ) := rfl
  refine rc_gr hS (hAs _ hS.1) (va_runU (As := []) (rest := []) ⟨hx, hb, hml, hown, hts⟩ (k_J5_getValue_6d5f1 l hT sb hsb s.heap.size _ _ _ hc) (va_cwU (owner := "java/lang/AbstractStringBuilder") 0 hts (rc_gU tw_5_53 tw_5_55 tw_5_56 tw_5_54 tw_1_10 tw_5_57) rfl rfl rfl rfl (by decide +kernel) ⟨Nat.le_of_ble_eq_true rfl, Nat.le_of_ble_eq_true rfl⟩) (rc_preVB hW hK hE hB hsb (by decide) rfl (q := (RJ4, TJ4, 4)) rfl []) rfl rfl hl.1 rfl (lv_room (Nat.le_of_ble_eq_true rfl)) dJ0_init_db425_5 ⟨Nat.le_of_ble_eq_true rfl, Nat.le_of_ble_eq_true rfl⟩) (fun H locs hW1 _ hq1 hS => ?_)
  have hX := hX.kept (hq1 x hX.lt (fun h => h.elim (fun h => h hx0) (fun h => absurd hX.lt (Nat.not_lt.mpr h))))
  have hB := rc_mono hS hAB
  have hW := hW1
  refine lv_astore_n (lv' := [(3, .ref (rf sb 0)), (0, .ref x), (1, .ref sb), (2, .null)]) hx hb dJ0_init_db425_8 rfl hl (by decide) rfl (fun ls hl => ?_)
  refine lv_aload_n hx hb dJ0_init_db425_9 rfl (lv_at hl 2 rfl) ?_
  have hc : f_J4_length_8abf5 rf sb σ = some (2, σ) := by
    rw [f_J4_length_8abf5, f_J5_length_8abf5, pq_bd, hs3]
  refine rc_gi hS (hAs _ hS.1) (va_runU (As := []) (rest := []) ⟨hx, hb, hml, hown, hts⟩ (k_J4_length_8abf5 l hT sb hsb H.size _ _ _ hc) (va_cwO (owner := "java/lang/AbstractStringBuilder") 0 hts (rc_gO tw_5_58 tw_5_60 tw_5_59 tw_5_61 tw_5_62 tw_1_11 tw_5_63) rfl rfl rfl tw_5_65 (by decide +kernel) ⟨Nat.le_of_ble_eq_true rfl, Nat.le_of_ble_eq_true rfl⟩) (rc_preVB hW hK hE hB hsb (by decide) rfl (q := (RJ4, TJ4, 4)) rfl []) rfl rfl hl.1 rfl (lv_room (Nat.le_of_ble_eq_true rfl)) dJ0_init_db425_10 ⟨Nat.le_of_ble_eq_true rfl, Nat.le_of_ble_eq_true rfl⟩) (fun H locs hW1 _ hq1 hS => ?_)
  have hX := hX.kept (hq1 x hX.lt (fun h => h.elim (fun h => h hx0) (fun h => absurd hX.lt (Nat.not_lt.mpr h))))
  have hB := rc_mono hS hAB
  have hW := hW1
  refine lv_istore (lv' := [(4, .int 2), (3, .ref (rf sb 0)), (0, .ref x), (1, .ref sb), (2, .null)]) hx hb dJ0_init_db425_13 hl (by decide) rfl (fun ls hl => ?_)
  refine lv_aload_n hx hb dJ0_init_db425_15 rfl (lv_at hl 3 rfl) ?_
  have hc : f_J5_isLatin1_aae02 rf sb σ = some (1, σ) := by
    rw [f_J5_isLatin1_aae02, if_pos hs1]
  refine rc_gi hS (hAs _ hS.1) (va_runU (As := []) (rest := []) ⟨hx, hb, hml, hown, hts⟩ (k_J5_isLatin1_aae02 l hT sb hsb H.size _ _ _ hc) (va_cwU (owner := "java/lang/AbstractStringBuilder") 0 hts (rc_gU tw_5_66 tw_4_182 tw_4_183 tw_4_181 tw_1_10 tw_4_184) rfl rfl rfl rfl (by decide +kernel) ⟨Nat.le_of_ble_eq_true rfl, Nat.le_of_ble_eq_true rfl⟩) (rc_preVB hW hK hE hB hsb (by decide) rfl (q := (RJ4, TJ4, 4)) rfl []) rfl rfl hl.1 rfl (lv_room (Nat.le_of_ble_eq_true rfl)) dJ0_init_db425_16 ⟨Nat.le_of_ble_eq_true rfl, Nat.le_of_ble_eq_true rfl⟩) (fun H locs hW1 _ hq1 hS => ?_)
  have hX := hX.kept (hq1 x hX.lt (fun h => h.elim (fun h => h hx0) (fun h => absurd hX.lt (Nat.not_lt.mpr h))))
  have hB := rc_mono hS hAB
  have hW := hW1
  refine lv_if_eq (tgt := 41) hx hb dJ0_init_db425_19 (by decide) (fun c9 => absurd c9 (by decide)) (fun _ => ?_)
  refine lv_aload_n hx hb dJ0_init_db425_22 rfl (lv_at hl 2 rfl) ?_
  refine lv_iconst (v := 0) hx hb dJ0_init_db425_23 (by decide) ?_
  refine rc_putR (C := RJ0) (T := TJ0) (N := 4) (ci := 0) hx hb hts in_12 tyJ0 tyJ0_ok nmJ0 hown hK hX rfl 1 (by decide) (hts _ tw_5_101) (fun _ h => h) (Or.inr ⟨rfl, hin, rfl⟩) (ty := tyJ0 1) (by decide +kernel) rfl rfl (Nat.le_of_ble_eq_true rfl) dJ0_init_db425_24 (fun H1 locs1 hX1 z1 o1 hl1 => ?_)
  have hS1 : va_S (rc_A (rc_xs sh x 12) s.heap.size) s.heap H1 locs1 := rc_Sput hS z1 o1 hl1 (Or.inl (by rw [rc_xs_e]; decide))
  have hW1 : rc_W Y sh rf σ H1 := hW.kept (fun q h => o1 q (fun e => h (by rw [e]; exact hx0)))
  have hW := hW1
  have hX : va_at Y.2.1 vwCl (x, .inr (0, [.null, .int 0, .int 0, .int 0])) H1 := hX1
  have hS := hS1
  have hB := rc_mono hS hAB
  refine lv_aload_n hx hb dJ0_init_db425_27 rfl (lv_at hl 2 rfl) ?_
  refine lv_aload_n hx hb dJ0_init_db425_28 rfl (lv_at hl 1 rfl) ?_
  refine lv_iconst (v := 0) hx hb dJ0_init_db425_29 (by decide) ?_
  refine lv_iload hx hb dJ0_init_db425_30 (lv_at hl 0 rfl) ?_
  refine rc_rcall (B := rc_pB Y sh rf σ 32 (rc_gc (σ (rf sb 0)) 2) H1.size) hS (fun q _ h => hAs _ hS.1 q h) (fun q h => Or.inr (Nat.le_trans hS.1 h)) (hAs _ hS.1) (va_runS (As := [.ref (rf sb 0), .int 0, .int 2]) (rest := [.ref x]) ⟨hx, hb, hml, hown, hts⟩ (kn_J7_copyOfRange_39247_12 l hT (rf sb 0) (rc_t_11_0 hT hsb) H1.size σ hfit) (va_cwS 3 hts (rc_gS tw_5_67 tw_5_68 tw_1_23 tw_5_69) rfl rfl rfl (by decide +kernel) ⟨Nat.le_of_ble_eq_true rfl, Nat.le_of_ble_eq_true rfl⟩) (rc_preSB hW hK hE hB [.ref (rf sb 0), .int 0, .int 2]) rfl rfl hl.1 rfl (lv_room (Nat.le_of_ble_eq_true rfl)) dJ0_init_db425_32 ⟨Nat.le_of_ble_eq_true rfl, Nat.le_of_ble_eq_true rfl⟩) (fun a H locs hBa _ hq1 hS => ?_)
  obtain ⟨hla, hWa⟩ := hBa
  have hxa : x < a := Nat.lt_of_lt_of_le hX.lt hla
  have hax : a ≠ x := fun e => Nat.lt_irrefl _ (e ▸ hxa)
  have hsa : s.heap.size ≤ a := Nat.le_trans hS1.1 hla
  have hX := hX.kept (hq1 x hX.lt (fun h => h.elim (fun h => h hx0) (fun h => absurd hX.lt (Nat.not_lt.mpr h))))
  refine rc_putR (C := RJ0) (T := TJ0) (N := 4) (ci := 0) hx hb hts in_12 tyJ0 tyJ0_ok nmJ0 hown hK hX rfl 0 (by decide) (hts _ tw_5_100) (fun _ h => h) (Or.inr ⟨rfl, hin, rfl⟩) (ty := tyJ0 0) (by decide +kernel) rfl rfl (Nat.le_of_ble_eq_true rfl) dJ0_init_db425_35 (fun H1 locs1 hX1 z1 o1 hl1 => ?_)
  have hS1 : va_S (rc_A (rc_xs sh x 12) s.heap.size) s.heap H1 locs1 := rc_Sput hS z1 o1 hl1 (Or.inl (by rw [rc_xs_e]; decide))
  have hX : va_at Y.2.1 vwCl (x, .inr (0, [.ref a, .int 0, .int 0, .int 0])) H1 := hX1
  have hWa1 : rc_W Y (rc_xs sh a 32) rf (rc_row σ a (rc_gc (σ (rf sb 0)) 2)) H1 := hWa.kept (fun q h => o1 q (fun e => h (by rw [e, rc_xs_n (Ne.symm hax)]; exact hx0)))
  have hS := hS1
  have hB := rc_mono hS hAB
  refine lv_goto (tgt := 97) hx hb dJ0_init_db425_38 (by decide) ?_
  refine rc_vretB (B := rc_pS Y sh rf σ 12 (rc_gc (σ (rf sb 0)) 2) s.heap.size x) hx hb hr hlocks ⟨a, hsa, hax, ?_⟩ hS (Nat.le_of_ble_eq_true rfl) (Nat.le_of_ble_eq_true rfl) dJ0_init_db425_97
  refine rc_xsW (σ1 := rc_row (rc_row σ a (rc_gc (σ (rf sb 0)) 2)) x (fun _ => 0)) (rf1 := rc_xr rf x a) hWa1 (by rw [rc_xs_n (Ne.symm hax)]; exact hx0) (fun _ _ => rfl) ?_ (fun q h => if_neg h) (fun q h => rc_xr_n h)
  unfold rc_row
  rw [if_pos rfl, show rc_xr rf x a x = fun _ => a from funext fun _ => if_pos rfl]
  exact hX
set_option maxHeartbeats 4000000 in
set_option maxRecDepth 100000 in
theorem kn_J0_init_81219_12 (l : Launch) {Y : rc_Y} {sh : Nat → Nat} {rf : rc_F} (hT : rc_T Y sh rf) (x sb : Nat) (hx0 : sh x = 0) (hYx : Y.1 ≤ x) (hsb : sh sb = 11) (sz : Nat) (σ : rc_S) (hs1 : σ sb 1 = 0) (hs3 : σ sb 3 = 2) (hfit : rc_cpk (σ (rf sb 0)) (0 : Int32) (0 : Int32) (2 : Int32) 16 2 = true) : Met l yJ0_init_81219 (Cond.code yJ0_init_81219 cJ0_init_81219 2 none :: rc_big) ({ frames := 4, cells := 1, slots := 2, locals := 119 } : Room) (rc_Px Y sh rf σ sz x 0 [.null, .int 0, .int 0, .int 0] [.ref x, .ref sb]) (va_Qv (fun (_ : Unit) => True) (fun _ t => rc_pS Y sh rf σ 12 (rc_gc (σ (rf sb 0)) 2) sz x t.heap) (rc_A (rc_xs sh x 12) sz)) 1 2 (rc_A (rc_xs sh x 12) sz) := by
  refine rc_ofWF (cc := cJ0_init_81219) (maxL := 2) (ret := none) (by decide +kernel) rfl ?_
  intro p e s m args below meth c s₁ B hml hv
  obtain ⟨rfl, hsz, ⟨hW, hK, hE⟩, hX⟩ := hv
  have hx := B.exec
  have hb := B.bytes
  have hr := B.returns
  have hts : ∀ w ∈ rc_big, w.before _ s = true := fun w h => atoms_spec (ws := Cond.code yJ0_init_81219 cJ0_init_81219 2 none :: rc_big) B.pre w (List.mem_cons_of_mem _ h)
  have hown : s.vm.findClass RJ0 = some m.cls := findClass_of_methodNamed B.named
  have hlocks := B.notSynchronized
  clear B
  subst hsz
  have hl := lv_entry ([.ref x, .ref sb]) (n := 2) (Nat.le_of_ble_eq_true rfl)
  rw [lg_entry_eq]
  generalize (lg_sl ([.ref x, .ref sb]) ++ List.replicate (2 - (lg_sl ([.ref x, .ref sb])).length) Slot.unset).toArray = ls at hl ⊢
  have hl : lv_has ls 2 [(0, .ref x), (1, .ref sb)] := hl
  have hS : va_S (rc_A (rc_xs sh x 12) s.heap.size) s.heap s.heap [] := va_S.rf
  have hB : va_S (fun q => Y.1 ≤ q) s.heap s.heap [] := va_S.rf
  refine lv_aload_n hx hb dJ0_init_81219_0 rfl (lv_at hl 0 rfl) ?_
  refine lv_aload_n hx hb dJ0_init_81219_1 rfl (lv_at hl 1 rfl) ?_
  refine lv_null hx hb dJ0_init_81219_2 ?_
  refine rc_gv (B := rc_pS Y sh rf σ 12 (rc_gc (σ (rf sb 0)) 2) s.heap.size x) hS (fun _ h => h) (va_runI (As := [.ref sb, .null]) (rest := []) ⟨hx, hb, hml, hown, hts⟩ (kn_J0_init_db425_12 l hT x sb hx0 hYx hsb s.heap.size σ hs1 hs3 hfit) (cwI 2 hts (rc_gI tw_5_51) rfl rfl rfl (hts _ tw_1_12) (hts _ tw_5_49) (hts _ tw_5_50) rfl (by decide +kernel) ⟨Nat.le_of_ble_eq_true rfl, Nat.le_of_ble_eq_true rfl⟩) (rc_prex hW hK hE hB hX [.ref x, .ref sb, .null]) rfl rfl hl.1 rfl (lv_room (Nat.le_of_ble_eq_true rfl)) dJ0_init_81219_3 ⟨Nat.le_of_ble_eq_true rfl, Nat.le_of_ble_eq_true rfl⟩) (fun H locs hBx _ _ hS => ?_)
  exact rc_vretB (B := rc_pS Y sh rf σ 12 (rc_gc (σ (rf sb 0)) 2) s.heap.size x) hx hb hr hlocks hBx hS (Nat.le_of_ble_eq_true rfl) (Nat.le_of_ble_eq_true rfl) dJ0_init_81219_6
set_option maxHeartbeats 4000000 in
set_option maxRecDepth 100000 in
theorem kn_J4_toString_0e30d_12 (l : Launch) {Y : rc_Y} {sh : Nat → Nat} {rf : rc_F} (hT : rc_T Y sh rf) (sb : Nat) (hsb : sh sb = 11) (sz : Nat) (σ : rc_S) (hs1 : σ sb 1 = 0) (hs3 : σ sb 3 = 2) (hfit : rc_cpk (σ (rf sb 0)) (0 : Int32) (0 : Int32) (2 : Int32) 16 2 = true) : Met l yJ4_toString_0e30d (Cond.code yJ4_toString_0e30d cJ4_toString_0e30d 1 (some (.object "java/lang/String")) :: rc_big) ({ frames := 5, cells := 2, slots := 6, locals := 149 } : Room) (rc_P Y sh rf σ sz [.ref sb]) (va_Qr (fun (_ : Unit) => True) (fun _ a t => rc_pT Y sh rf σ 12 (rc_gc (σ (rf sb 0)) 2) sz a t.heap) (rc_A sh sz)) 2 6 (rc_A sh sz) := by
  refine rc_ofWF (cc := cJ4_toString_0e30d) (maxL := 1) (ret := (some (.object "java/lang/String"))) (by decide +kernel) rfl ?_
  intro p e s m args below meth c s₁ B hml hv
  obtain ⟨rfl, hsz, hW, hK, hE⟩ := hv
  have hx := B.exec
  have hb := B.bytes
  have hr := B.returns
  have hts : ∀ w ∈ rc_big, w.before _ s = true := fun w h => atoms_spec (ws := Cond.code yJ4_toString_0e30d cJ4_toString_0e30d 1 (some (.object "java/lang/String")) :: rc_big) B.pre w (List.mem_cons_of_mem _ h)
  have hown : s.vm.findClass RJ4 = some m.cls := findClass_of_methodNamed B.named
  have hlocks := B.notSynchronized
  clear B
  subst hsz
  have hl := lv_entry ([.ref sb]) (n := 1) (Nat.le_of_ble_eq_true rfl)
  rw [lg_entry_eq]
  generalize (lg_sl ([.ref sb]) ++ List.replicate (1 - (lg_sl ([.ref sb])).length) Slot.unset).toArray = ls at hl ⊢
  have hl : lv_has ls 1 [(0, .ref sb)] := hl
  have hS : va_S (rc_A sh s.heap.size) s.heap s.heap [] := va_S.rf
  refine rc_newR (C := RJ0) (T := TJ0) (N := 4) (ci := 0) (fs := [.null, .int 0, .int 0, .int 0]) hx hb hts in_12 tyJ0 tyJ0_ok hown (hts _ tw_5_45) (hts _ tw_2_195) (hts _ tw_1_12) hK rfl (fun j hj => by
    rcases (show j = 0 ∨ j = 1 ∨ j = 2 ∨ j = 3 by omega) with rfl | rfl | rfl | rfl <;> rfl) (Nat.le_of_ble_eq_true rfl) (Nat.le_of_ble_eq_true rfl) dJ4_toString_0e30d_0 (fun H1 hX z1 o1 => ?_)
  have hx0 : sh s.heap.size = 0 := Classical.byContradiction (fun h => Nat.lt_irrefl _ (hW.lt h))
  have hW1 : rc_W Y sh rf σ H1 := hW.kept (fun q h => o1 q (hW.lt h))
  have hS1 : va_S (rc_A sh s.heap.size) s.heap H1 [] := ⟨by rw [z1]; exact Nat.le_succ _, fun q g1 _ => o1 q g1, hS.2.2⟩
  have hB := rc_SB hT hE hS1
  refine lv_dup hx hb dJ4_toString_0e30d_3 rfl ?_
  refine lv_aload_n hx hb dJ4_toString_0e30d_4 rfl (lv_at hl 0 rfl) ?_
  refine rc_gv (B := rc_pS Y sh rf σ 12 (rc_gc (σ (rf sb 0)) 2) H1.size s.heap.size) hS1 (fun q h => ?_) (va_runI (As := [.ref sb]) (rest := [.ref s.heap.size]) ⟨hx, hb, hml, hown, hts⟩ (kn_J0_init_81219_12 l hT s.heap.size sb hx0 hE.1 hsb H1.size σ hs1 hs3 hfit) (cwI 1 hts (rc_gI tw_5_48) rfl rfl rfl (hts _ tw_1_12) (hts _ tw_5_46) (hts _ tw_5_47) rfl (by decide +kernel) ⟨Nat.le_of_ble_eq_true rfl, Nat.le_of_ble_eq_true rfl⟩) (rc_prex hW1 hK hE hB hX [.ref s.heap.size, .ref sb]) rfl rfl hl.1 rfl (lv_room (Nat.le_of_ble_eq_true rfl)) dJ4_toString_0e30d_5 ⟨Nat.le_of_ble_eq_true rfl, Nat.le_of_ble_eq_true rfl⟩) (fun H locs hBx _ _ hS => ?_)
  · rcases h with h | h
    · by_cases e : q = s.heap.size
      · exact Or.inr (Nat.le_of_eq e.symm)
      · rw [rc_xs_n e] at h; exact Or.inl h
    · exact Or.inr (Nat.le_trans hS1.1 h)
  · refine rc_rret (B := rc_pT Y sh rf σ 12 (rc_gc (σ (rf sb 0)) 2) s.heap.size) hx hb hr (Or.inl ⟨_, rfl⟩) hlocks ?_ hS (Nat.le_of_ble_eq_true rfl) (Nat.le_of_ble_eq_true rfl) dJ4_toString_0e30d_8
    obtain ⟨a, ha, hax, hWx⟩ := hBx
    exact ⟨Nat.le_refl _, a, Nat.le_trans hS1.1 ha, hax, hWx⟩
set_option maxHeartbeats 4000000 in
set_option maxRecDepth 100000 in
theorem kn_J7_copyOfRangeByte_39247_13 (l : Launch) {Y : rc_Y} {sh : Nat → Nat} {rf : rc_F} (hT : rc_T Y sh rf) (q0 : Nat) (hq0 : sh q0 = 24) (sz : Nat) (σ : rc_S) (hfit : rc_cpk (σ q0) (0 : Int32) (0 : Int32) (4 : Int32) 16 4 = true) : Met l yJ7_copyOfRangeByte_39247 (Cond.code yJ7_copyOfRangeByte_39247 cJ7_copyOfRangeByte_39247 5 (some (.array .byte)) :: rc_big) ({ frames := 1, cells := 1, slots := 4, locals := 40 } : Room) (rc_P Y sh rf σ sz [.ref q0, .int 0, .int 4]) (va_Qr (fun (_ : Unit) => True) (fun _ a t => rc_pB Y sh rf σ 33 (rc_gc (σ q0) 4) sz a t.heap) (rc_A sh sz)) 1 4 (rc_A sh sz) := by
  refine rc_ofWF (cc := cJ7_copyOfRangeByte_39247) (maxL := 5) (ret := (some (.array .byte))) (by decide +kernel) rfl ?_
  intro p e s m args below meth c s₁ B hml hv
  obtain ⟨rfl, hsz, hW, hK, hE⟩ := hv
  have hx := B.exec
  have hb := B.bytes
  have hr := B.returns
  have hts : ∀ w ∈ rc_big, w.before _ s = true := fun w h => atoms_spec (ws := Cond.code yJ7_copyOfRangeByte_39247 cJ7_copyOfRangeByte_39247 5 (some (.array .byte)) :: rc_big) B.pre w (List.mem_cons_of_mem _ h)
  have hown : s.vm.findClass RJ7 = some m.cls := findClass_of_methodNamed B.named
  have hlocks := B.notSynchronized
  clear B
  subst hsz
  have hl := lv_entry ([.ref q0, .int 0, .int 4]) (n := 5) (Nat.le_of_ble_eq_true rfl)
  rw [lg_entry_eq]
  generalize (lg_sl ([.ref q0, .int 0, .int 4]) ++ List.replicate (5 - (lg_sl ([.ref q0, .int 0, .int 4])).length) Slot.unset).toArray = ls at hl ⊢
  have hl : lv_has ls 5 [(0, .ref q0), (1, .int 0), (2, .int 4)] := hl
  have hS : va_S (rc_A sh s.heap.size) s.heap s.heap [] := va_S.rf
  refine lv_iload_n hx hb dJ7_copyOfRangeByte_39247_0 rfl (lv_at hl 1 rfl) ?_
  refine lv_iload_n hx hb dJ7_copyOfRangeByte_39247_1 rfl (lv_at hl 2 rfl) ?_
  have hc_1 : f_J7_checkLength_df160 rf 0 4 σ = some ((), σ) := if_pos (by decide)
  refine rc_cv hS (va_runS (As := [.int 0, .int 4]) (rest := []) ⟨hx, hb, hml, hown, hts⟩ (k_J7_checkLength_df160 l hT 0 4  s.heap.size _ _ _ hc_1) (va_cwS 2 hts (rc_gS tw_5_73 tw_5_74 tw_1_23 tw_5_75) rfl rfl rfl (by decide +kernel) ⟨Nat.le_of_ble_eq_true rfl, Nat.le_of_ble_eq_true rfl⟩) (rc_preS hT hW hK hE hS [.int 0, .int 4]) rfl rfl hl.1 rfl (lv_room (Nat.le_of_ble_eq_true rfl)) dJ7_copyOfRangeByte_39247_2 ⟨Nat.le_of_ble_eq_true rfl, Nat.le_of_ble_eq_true rfl⟩) (fun H locs hW hS => ?_)
  refine lv_iload_n hx hb dJ7_copyOfRangeByte_39247_5 rfl (lv_at hl 2 rfl) ?_
  refine lv_iload_n hx hb dJ7_copyOfRangeByte_39247_6 rfl (lv_at hl 1 rfl) ?_
  refine lv_isub hx hb dJ7_copyOfRangeByte_39247_7 ?_
  rw [show ((4 - 0) : Int32) = 4 from by decide]
  refine lv_istore_n (lv' := [(3, .int (4 : Int32)), (0, .ref q0), (1, .int 0), (2, .int 4)]) hx hb dJ7_copyOfRangeByte_39247_8 rfl hl (by decide) rfl (fun ls hl => ?_)
  refine lv_iload_n hx hb dJ7_copyOfRangeByte_39247_9 rfl (lv_at hl 0 rfl) ?_
  refine rc_newaR hx hb (hts _ tw_2_81) hK (by decide) (show (4 : Int32).toNatClampNeg = 4 by decide) (by decide) (Nat.le_of_ble_eq_true rfl) (Nat.le_of_ble_eq_true rfl) dJ7_copyOfRangeByte_39247_10 (fun H1 hat z1 o1 => ?_)
  have hsz : s.heap.size ≤ H.size := hS.1
  have hYz : Y.1 ≤ H.size := Nat.le_trans hE.1 hS.1
  have h0z : sh H.size = 0 := Classical.byContradiction (fun h => Nat.lt_irrefl _ (hW.lt h))
  have hlt : ∀ q, sh q ≠ 0 → q < H.size := fun q h => hW.lt h
  have hS1 : va_S (rc_A sh s.heap.size) s.heap H1 locs := ⟨by rw [z1]; exact Nat.le_succ_of_le hS.1, fun q g1 g2 => (o1 q (Nat.lt_of_lt_of_le g1 hS.1)).trans (hS.2.1 q g1 g2), hS.2.2⟩
  generalize H.size = z at hat z1 o1 hsz hYz h0z hlt ⊢
  have hqz : q0 ≠ z := fun e => by rw [e, h0z] at hq0; cases hq0
  obtain ⟨σz, hσz⟩ : ∃ σz : rc_S, σz = rc_row σ z (fun _ => 0) := ⟨_, rfl⟩
  have hW1 : rc_W Y (rc_xs sh z 33) rf σz H1 := rc_xsW (σ1 := σz) hW h0z (fun q h => o1 q (hlt q h)) (by rw [hσz]; unfold rc_row; rw [if_pos rfl]; exact hat) (fun q h => by rw [hσz]; exact if_neg h) (fun _ _ => rfl)
  have hT0 := hT
  have hT := rc_xsT hT h0z hYz (t := 33) (by decide)
  have hW := hW1
  have hS : va_S (rc_A (rc_xs sh z 33) s.heap.size) s.heap H1 locs := by rw [rc_xsA hsz]; exact hS1
  have hq0 := rc_xk (a := z) (t := 33) h0z hq0 (by decide)
  have hzz : rc_xs sh z 33 z = 33 := rc_xs_e
  refine lv_astore (lv' := [(4, .ref z), (3, .int (4 : Int32)), (0, .ref q0), (1, .int 0), (2, .int 4)]) hx hb dJ7_copyOfRangeByte_39247_12 hl (by decide) rfl (fun ls hl => ?_)
  refine lv_aload_n hx hb dJ7_copyOfRangeByte_39247_14 rfl (lv_at hl 2 rfl) ?_
  refine lv_iload_n hx hb dJ7_copyOfRangeByte_39247_15 rfl (lv_at hl 3 rfl) ?_
  refine lv_aload hx hb dJ7_copyOfRangeByte_39247_16 (lv_at hl 0 rfl) ?_
  refine lv_iconst (v := 0) hx hb dJ7_copyOfRangeByte_39247_18 (by decide) ?_
  refine lv_aload_n hx hb dJ7_copyOfRangeByte_39247_19 rfl (lv_at hl 2 rfl) ?_
  refine rc_alen (v := 16) hx hb hK hW hq0 (by decide) rfl 3 rfl rfl dJ7_copyOfRangeByte_39247_20 ?_
  refine lv_iload_n hx hb dJ7_copyOfRangeByte_39247_21 rfl (lv_at hl 3 rfl) ?_
  refine lv_isub hx hb dJ7_copyOfRangeByte_39247_22 ?_
  rw [show (((16 : Int32) - 0) : Int32) = 16 from by decide]
  refine lv_iload_n hx hb dJ7_copyOfRangeByte_39247_23 rfl (lv_at hl 1 rfl) ?_
  refine va_mmin hx hb (hml.trans hl.1.symm) hown (hts _ tw_4_176) (hts _ tw_3_31) (hts _ tw_1_22) (hts _ tw_3_32) (Nat.le_of_ble_eq_true rfl) (Nat.le_of_ble_eq_true rfl) (Nat.le_of_ble_eq_true rfl) (Nat.le_of_ble_eq_true rfl) dJ7_copyOfRangeByte_39247_24 ?_
  rw [show ((if (4 : Int32) < (16 : Int32) then (4 : Int32) else (16 : Int32)) : Int32) = 4 from by decide]
  have hq : rc_cpk (σz q0) (0 : Int32) (0 : Int32) (4 : Int32) 16 4 = true := by
    rw [hσz]; unfold rc_row; rw [if_neg hqz]; exact hfit
  refine rc_copyw hx hb (hml.trans hl.1.symm) hown (hts _ tw_4_177) (hts _ tw_4_179) (hts _ tw_4_178) (hts _ tw_1_24) hK hW hS hq0 (by decide) (fun _ => rfl) hzz (by decide) (fun _ => rfl) hq (Nat.le_of_ble_eq_true rfl) (Nat.le_of_ble_eq_true rfl) dJ7_copyOfRangeByte_39247_27 (fun σ2 H locs eσ hW hS => ?_)
  refine lv_aload hx hb dJ7_copyOfRangeByte_39247_30 (lv_at hl 0 rfl) ?_
  rw [rc_xsA hsz] at hS
  refine rc_rret (B := rc_pB Y sh rf σ 33 (rc_gc (σ q0) 4) s.heap.size) hx hb hr (Or.inr ⟨_, rfl⟩) hlocks ⟨hsz, ?_⟩ hS (Nat.le_of_ble_eq_true rfl) (Nat.le_of_ble_eq_true rfl) dJ7_copyOfRangeByte_39247_32
  have ee : σ2 = rc_row σ z (rc_gc (σ q0) 4) := by
    rw [eσ, hσz]
    funext b
    unfold rc_row rc_gc
    by_cases h : b = z
    · rw [if_pos h, if_pos h, if_pos rfl, if_neg hqz]
    · rw [if_neg h, if_neg h, if_neg h]
  rw [← ee]
  exact hW
set_option maxHeartbeats 4000000 in
set_option maxRecDepth 100000 in
theorem kn_J7_copyOfRange_39247_13 (l : Launch) {Y : rc_Y} {sh : Nat → Nat} {rf : rc_F} (hT : rc_T Y sh rf) (q0 : Nat) (hq0 : sh q0 = 24) (sz : Nat) (σ : rc_S) (hfit : rc_cpk (σ q0) (0 : Int32) (0 : Int32) (4 : Int32) 16 4 = true) : Met l yJ7_copyOfRange_39247 (Cond.code yJ7_copyOfRange_39247 cJ7_copyOfRange_39247 3 (some (.array .byte)) :: rc_big) ({ frames := 2, cells := 1, slots := 4, locals := 64 } : Room) (rc_P Y sh rf σ sz [.ref q0, .int 0, .int 4]) (va_Qr (fun (_ : Unit) => True) (fun _ a t => rc_pB Y sh rf σ 33 (rc_gc (σ q0) 4) sz a t.heap) (rc_A sh sz)) 1 4 (rc_A sh sz) := by
  refine rc_ofWF (cc := cJ7_copyOfRange_39247) (maxL := 3) (ret := (some (.array .byte))) (by decide +kernel) rfl ?_
  intro p e s m args below meth c s₁ B hml hv
  obtain ⟨rfl, hsz, hW, hK, hE⟩ := hv
  have hx := B.exec
  have hb := B.bytes
  have hr := B.returns
  have hts : ∀ w ∈ rc_big, w.before _ s = true := fun w h => atoms_spec (ws := Cond.code yJ7_copyOfRange_39247 cJ7_copyOfRange_39247 3 (some (.array .byte)) :: rc_big) B.pre w (List.mem_cons_of_mem _ h)
  have hown : s.vm.findClass RJ7 = some m.cls := findClass_of_methodNamed B.named
  have hlocks := B.notSynchronized
  clear B
  subst hsz
  have hl := lv_entry ([.ref q0, .int 0, .int 4]) (n := 3) (Nat.le_of_ble_eq_true rfl)
  rw [lg_entry_eq]
  generalize (lg_sl ([.ref q0, .int 0, .int 4]) ++ List.replicate (3 - (lg_sl ([.ref q0, .int 0, .int 4])).length) Slot.unset).toArray = ls at hl ⊢
  have hl : lv_has ls 3 [(0, .ref q0), (1, .int 0), (2, .int 4)] := hl
  have hS : va_S (rc_A sh s.heap.size) s.heap s.heap [] := va_S.rf
  refine lv_iload_n hx hb dJ7_copyOfRange_39247_0 rfl (lv_at hl 1 rfl) ?_
  refine lv_if_ne (tgt := 10) hx hb dJ7_copyOfRange_39247_1 (by decide) (fun c9 => absurd c9 (by decide)) (fun _ => ?_)
  refine lv_iload_n hx hb dJ7_copyOfRange_39247_4 rfl (lv_at hl 2 rfl) ?_
  refine lv_aload_n hx hb dJ7_copyOfRange_39247_5 rfl (lv_at hl 0 rfl) ?_
  refine rc_alen (v := 16) hx hb hK hW hq0 (by decide) rfl 3 rfl rfl dJ7_copyOfRange_39247_6 ?_
  refine lv_icmp_eq (tgt := 17) hx hb dJ7_copyOfRange_39247_7 (by decide) (fun c9 => absurd c9 (by decide)) (fun _ => ?_)
  refine lv_aload_n hx hb dJ7_copyOfRange_39247_10 rfl (lv_at hl 0 rfl) ?_
  refine lv_iload_n hx hb dJ7_copyOfRange_39247_11 rfl (lv_at hl 1 rfl) ?_
  refine lv_iload_n hx hb dJ7_copyOfRange_39247_12 rfl (lv_at hl 2 rfl) ?_
  refine rc_rcall (B := rc_pB Y sh rf σ 33 (rc_gc (σ q0) 4) s.heap.size) hS rc_Ain (fun q h => Or.inr h) (rc_Afr hS) (va_runS (As := [.ref q0, .int 0, .int 4]) (rest := []) ⟨hx, hb, hml, hown, hts⟩ (kn_J7_copyOfRangeByte_39247_13 l hT q0 hq0 s.heap.size σ hfit) (va_cwS 3 hts (rc_gS tw_5_70 tw_5_71 tw_1_23 tw_5_72) rfl rfl rfl (by decide +kernel) ⟨Nat.le_of_ble_eq_true rfl, Nat.le_of_ble_eq_true rfl⟩) (rc_preS hT hW hK hE hS [.ref q0, .int 0, .int 4]) rfl rfl hl.1 rfl (lv_room (Nat.le_of_ble_eq_true rfl)) dJ7_copyOfRange_39247_13 ⟨Nat.le_of_ble_eq_true rfl, Nat.le_of_ble_eq_true rfl⟩) (fun v H locs hB _ _ hS => ?_)
  exact rc_rret (B := rc_pB Y sh rf σ 33 (rc_gc (σ q0) 4) s.heap.size) hx hb hr (Or.inr ⟨_, rfl⟩) hlocks hB hS (Nat.le_of_ble_eq_true rfl) (Nat.le_of_ble_eq_true rfl) dJ7_copyOfRange_39247_16
set_option maxHeartbeats 4000000 in
set_option maxRecDepth 100000 in
theorem kn_J0_init_db425_13 (l : Launch) {Y : rc_Y} {sh : Nat → Nat} {rf : rc_F} (hT : rc_T Y sh rf) (x sb : Nat) (hx0 : sh x = 0) (hYx : Y.1 ≤ x) (hsb : sh sb = 11) (sz : Nat) (σ : rc_S) (hs1 : σ sb 1 = 0) (hs3 : σ sb 3 = 4) (hfit : rc_cpk (σ (rf sb 0)) (0 : Int32) (0 : Int32) (4 : Int32) 16 4 = true) : Met l yJ0_init_db425 (Cond.code yJ0_init_db425 cJ0_init_db425 5 none :: rc_big) ({ frames := 3, cells := 1, slots := 4, locals := 95 } : Room) (rc_Px Y sh rf σ sz x 0 [.null, .int 0, .int 0, .int 0] [.ref x, .ref sb, .null]) (va_Qv (fun (_ : Unit) => True) (fun _ t => rc_pS Y sh rf σ 13 (rc_gc (σ (rf sb 0)) 4) sz x t.heap) (rc_A (rc_xs sh x 13) sz)) 1 4 (rc_A (rc_xs sh x 13) sz) := by
  refine rc_ofWF (cc := cJ0_init_db425) (maxL := 5) (ret := none) (by decide +kernel) rfl ?_
  intro p e s m args below meth c s₁ B hml hv
  obtain ⟨rfl, hsz, ⟨hW, hK, hE⟩, hX⟩ := hv
  have hx := B.exec
  have hb := B.bytes
  have hr := B.returns
  have hts : ∀ w ∈ rc_big, w.before _ s = true := fun w h => atoms_spec (ws := Cond.code yJ0_init_db425 cJ0_init_db425 5 none :: rc_big) B.pre w (List.mem_cons_of_mem _ h)
  have hown : s.vm.findClass RJ0 = some m.cls := findClass_of_methodNamed B.named
  have hin : meth.name = "<init>" := (name_of_methodNamed B.named B.method).1
  have hlocks := B.notSynchronized
  clear B
  subst hsz
  have hl := lv_entry ([.ref x, .ref sb, .null]) (n := 5) (Nat.le_of_ble_eq_true rfl)
  rw [lg_entry_eq]
  generalize (lg_sl ([.ref x, .ref sb, .null]) ++ List.replicate (5 - (lg_sl ([.ref x, .ref sb, .null])).length) Slot.unset).toArray = ls at hl ⊢
  have hl : lv_has ls 5 [(0, .ref x), (1, .ref sb), (2, .null)] := hl
  have hS : va_S (rc_A (rc_xs sh x 13) s.heap.size) s.heap s.heap [] := va_S.rf
  have hxl : x < s.heap.size := hX.lt
  have hAB : ∀ q, rc_A (rc_xs sh x 13) s.heap.size q → Y.1 ≤ q := fun q h => by
    rcases h with h | h
    · by_cases e : q = x
      · rw [e]; exact hYx
      · rw [rc_xs_n e] at h; exact rc_t_b hT h
    · exact Nat.le_trans hE.1 h
  have hAs : ∀ n, s.heap.size ≤ n → ∀ q, rc_A sh n q → rc_A (rc_xs sh x 13) s.heap.size q := fun n hn q h => by
    rcases h with h | h
    · left
      by_cases e : q = x
      · rw [e, rc_xs_e]; decide
      · rw [rc_xs_n e]; exact h
    · exact Or.inr (Nat.le_trans hn h)
  have hB := rc_mono hS hAB
  refine lv_aload_n hx hb dJ0_init_db425_0 rfl (lv_at hl 0 rfl) ?_
  refine W.objInit hx hb hown (hts _ tw_5_52) (hts _ tw_1_40) (hts _ tw_1_41) rfl (by rw [hml]; exact hl.1) rfl dJ0_init_db425_1 (Nat.le_of_ble_eq_true rfl) (Nat.le_of_ble_eq_true rfl) ?_
  refine W.eq (g2 := F0 m 4 ls []) rfl ?_
  refine lv_aload_n hx hb dJ0_init_db425_4 rfl (lv_at hl 1 rfl) ?_
  have hc : f_J5_getValue_6d5f1 rf sb σ = some (rf sb 0, σ) := rfl
  refine rc_gr hS (hAs _ hS.1) (va_runU (As := []) (rest := []) ⟨hx, hb, hml, hown, hts⟩ (k_J5_getValue_6d5f1 l hT sb hsb s.heap.size _ _ _ hc) (va_cwU (owner := "java/lang/AbstractStringBuilder") 0 hts (rc_gU tw_5_53 tw_5_55 tw_5_56 tw_5_54 tw_1_10 tw_5_57) rfl rfl rfl rfl (by decide +kernel) ⟨Nat.le_of_ble_eq_true rfl, Nat.le_of_ble_eq_true rfl⟩) (rc_preVB hW hK hE hB hsb (by decide) rfl (q := (RJ4, TJ4, 4)) rfl []) rfl rfl hl.1 rfl (lv_room (Nat.le_of_ble_eq_true rfl)) dJ0_init_db425_5 ⟨Nat.le_of_ble_eq_true rfl, Nat.le_of_ble_eq_true rfl⟩) (fun H locs hW1 _ hq1 hS => ?_)
  have hX := hX.kept (hq1 x hX.lt (fun h => h.elim (fun h => h hx0) (fun h => absurd hX.lt (Nat.not_lt.mpr h))))
  have hB := rc_mono hS hAB
  have hW := hW1
  refine lv_astore_n (lv' := [(3, .ref (rf sb 0)), (0, .ref x), (1, .ref sb), (2, .null)]) hx hb dJ0_init_db425_8 rfl hl (by decide) rfl (fun ls hl => ?_)
  refine lv_aload_n hx hb dJ0_init_db425_9 rfl (lv_at hl 2 rfl) ?_
  have hc : f_J4_length_8abf5 rf sb σ = some (4, σ) := by
    rw [f_J4_length_8abf5, f_J5_length_8abf5, pq_bd, hs3]
  refine rc_gi hS (hAs _ hS.1) (va_runU (As := []) (rest := []) ⟨hx, hb, hml, hown, hts⟩ (k_J4_length_8abf5 l hT sb hsb H.size _ _ _ hc) (va_cwO (owner := "java/lang/AbstractStringBuilder") 0 hts (rc_gO tw_5_58 tw_5_60 tw_5_59 tw_5_61 tw_5_62 tw_1_11 tw_5_63) rfl rfl rfl tw_5_65 (by decide +kernel) ⟨Nat.le_of_ble_eq_true rfl, Nat.le_of_ble_eq_true rfl⟩) (rc_preVB hW hK hE hB hsb (by decide) rfl (q := (RJ4, TJ4, 4)) rfl []) rfl rfl hl.1 rfl (lv_room (Nat.le_of_ble_eq_true rfl)) dJ0_init_db425_10 ⟨Nat.le_of_ble_eq_true rfl, Nat.le_of_ble_eq_true rfl⟩) (fun H locs hW1 _ hq1 hS => ?_)
  have hX := hX.kept (hq1 x hX.lt (fun h => h.elim (fun h => h hx0) (fun h => absurd hX.lt (Nat.not_lt.mpr h))))
  have hB := rc_mono hS hAB
  have hW := hW1
  refine lv_istore (lv' := [(4, .int 4), (3, .ref (rf sb 0)), (0, .ref x), (1, .ref sb), (2, .null)]) hx hb dJ0_init_db425_13 hl (by decide) rfl (fun ls hl => ?_)
  refine lv_aload_n hx hb dJ0_init_db425_15 rfl (lv_at hl 3 rfl) ?_
  have hc : f_J5_isLatin1_aae02 rf sb σ = some (1, σ) := by
    rw [f_J5_isLatin1_aae02, if_pos hs1]
  refine rc_gi hS (hAs _ hS.1) (va_runU (As := []) (rest := []) ⟨hx, hb, hml, hown, hts⟩ (k_J5_isLatin1_aae02 l hT sb hsb H.size _ _ _ hc) (va_cwU (owner := "java/lang/AbstractStringBuilder") 0 hts (rc_gU tw_5_66 tw_4_182 tw_4_183 tw_4_181 tw_1_10 tw_4_184) rfl rfl rfl rfl (by decide +kernel) ⟨Nat.le_of_ble_eq_true rfl, Nat.le_of_ble_eq_true rfl⟩) (rc_preVB hW hK hE hB hsb (by decide) rfl (q := (RJ4, TJ4, 4)) rfl []) rfl rfl hl.1 rfl (lv_room (Nat.le_of_ble_eq_true rfl)) dJ0_init_db425_16 ⟨Nat.le_of_ble_eq_true rfl, Nat.le_of_ble_eq_true rfl⟩) (fun H locs hW1 _ hq1 hS => ?_)
  have hX := hX.kept (hq1 x hX.lt (fun h => h.elim (fun h => h hx0) (fun h => absurd hX.lt (Nat.not_lt.mpr h))))
  have hB := rc_mono hS hAB
  have hW := hW1
  refine lv_if_eq (tgt := 41) hx hb dJ0_init_db425_19 (by decide) (fun c9 => absurd c9 (by decide)) (fun _ => ?_)
  refine lv_aload_n hx hb dJ0_init_db425_22 rfl (lv_at hl 2 rfl) ?_
  refine lv_iconst (v := 0) hx hb dJ0_init_db425_23 (by decide) ?_
  refine rc_putR (C := RJ0) (T := TJ0) (N := 4) (ci := 0) hx hb hts in_12 tyJ0 tyJ0_ok nmJ0 hown hK hX rfl 1 (by decide) (hts _ tw_5_101) (fun _ h => h) (Or.inr ⟨rfl, hin, rfl⟩) (ty := tyJ0 1) (by decide +kernel) rfl rfl (Nat.le_of_ble_eq_true rfl) dJ0_init_db425_24 (fun H1 locs1 hX1 z1 o1 hl1 => ?_)
  have hS1 : va_S (rc_A (rc_xs sh x 13) s.heap.size) s.heap H1 locs1 := rc_Sput hS z1 o1 hl1 (Or.inl (by rw [rc_xs_e]; decide))
  have hW1 : rc_W Y sh rf σ H1 := hW.kept (fun q h => o1 q (fun e => h (by rw [e]; exact hx0)))
  have hW := hW1
  have hX : va_at Y.2.1 vwCl (x, .inr (0, [.null, .int 0, .int 0, .int 0])) H1 := hX1
  have hS := hS1
  have hB := rc_mono hS hAB
  refine lv_aload_n hx hb dJ0_init_db425_27 rfl (lv_at hl 2 rfl) ?_
  refine lv_aload_n hx hb dJ0_init_db425_28 rfl (lv_at hl 1 rfl) ?_
  refine lv_iconst (v := 0) hx hb dJ0_init_db425_29 (by decide) ?_
  refine lv_iload hx hb dJ0_init_db425_30 (lv_at hl 0 rfl) ?_
  refine rc_rcall (B := rc_pB Y sh rf σ 33 (rc_gc (σ (rf sb 0)) 4) H1.size) hS (fun q _ h => hAs _ hS.1 q h) (fun q h => Or.inr (Nat.le_trans hS.1 h)) (hAs _ hS.1) (va_runS (As := [.ref (rf sb 0), .int 0, .int 4]) (rest := [.ref x]) ⟨hx, hb, hml, hown, hts⟩ (kn_J7_copyOfRange_39247_13 l hT (rf sb 0) (rc_t_11_0 hT hsb) H1.size σ hfit) (va_cwS 3 hts (rc_gS tw_5_67 tw_5_68 tw_1_23 tw_5_69) rfl rfl rfl (by decide +kernel) ⟨Nat.le_of_ble_eq_true rfl, Nat.le_of_ble_eq_true rfl⟩) (rc_preSB hW hK hE hB [.ref (rf sb 0), .int 0, .int 4]) rfl rfl hl.1 rfl (lv_room (Nat.le_of_ble_eq_true rfl)) dJ0_init_db425_32 ⟨Nat.le_of_ble_eq_true rfl, Nat.le_of_ble_eq_true rfl⟩) (fun a H locs hBa _ hq1 hS => ?_)
  obtain ⟨hla, hWa⟩ := hBa
  have hxa : x < a := Nat.lt_of_lt_of_le hX.lt hla
  have hax : a ≠ x := fun e => Nat.lt_irrefl _ (e ▸ hxa)
  have hsa : s.heap.size ≤ a := Nat.le_trans hS1.1 hla
  have hX := hX.kept (hq1 x hX.lt (fun h => h.elim (fun h => h hx0) (fun h => absurd hX.lt (Nat.not_lt.mpr h))))
  refine rc_putR (C := RJ0) (T := TJ0) (N := 4) (ci := 0) hx hb hts in_12 tyJ0 tyJ0_ok nmJ0 hown hK hX rfl 0 (by decide) (hts _ tw_5_100) (fun _ h => h) (Or.inr ⟨rfl, hin, rfl⟩) (ty := tyJ0 0) (by decide +kernel) rfl rfl (Nat.le_of_ble_eq_true rfl) dJ0_init_db425_35 (fun H1 locs1 hX1 z1 o1 hl1 => ?_)
  have hS1 : va_S (rc_A (rc_xs sh x 13) s.heap.size) s.heap H1 locs1 := rc_Sput hS z1 o1 hl1 (Or.inl (by rw [rc_xs_e]; decide))
  have hX : va_at Y.2.1 vwCl (x, .inr (0, [.ref a, .int 0, .int 0, .int 0])) H1 := hX1
  have hWa1 : rc_W Y (rc_xs sh a 33) rf (rc_row σ a (rc_gc (σ (rf sb 0)) 4)) H1 := hWa.kept (fun q h => o1 q (fun e => h (by rw [e, rc_xs_n (Ne.symm hax)]; exact hx0)))
  have hS := hS1
  have hB := rc_mono hS hAB
  refine lv_goto (tgt := 97) hx hb dJ0_init_db425_38 (by decide) ?_
  refine rc_vretB (B := rc_pS Y sh rf σ 13 (rc_gc (σ (rf sb 0)) 4) s.heap.size x) hx hb hr hlocks ⟨a, hsa, hax, ?_⟩ hS (Nat.le_of_ble_eq_true rfl) (Nat.le_of_ble_eq_true rfl) dJ0_init_db425_97
  refine rc_xsW (σ1 := rc_row (rc_row σ a (rc_gc (σ (rf sb 0)) 4)) x (fun _ => 0)) (rf1 := rc_xr rf x a) hWa1 (by rw [rc_xs_n (Ne.symm hax)]; exact hx0) (fun _ _ => rfl) ?_ (fun q h => if_neg h) (fun q h => rc_xr_n h)
  unfold rc_row
  rw [if_pos rfl, show rc_xr rf x a x = fun _ => a from funext fun _ => if_pos rfl]
  exact hX
set_option maxHeartbeats 4000000 in
set_option maxRecDepth 100000 in
theorem kn_J0_init_81219_13 (l : Launch) {Y : rc_Y} {sh : Nat → Nat} {rf : rc_F} (hT : rc_T Y sh rf) (x sb : Nat) (hx0 : sh x = 0) (hYx : Y.1 ≤ x) (hsb : sh sb = 11) (sz : Nat) (σ : rc_S) (hs1 : σ sb 1 = 0) (hs3 : σ sb 3 = 4) (hfit : rc_cpk (σ (rf sb 0)) (0 : Int32) (0 : Int32) (4 : Int32) 16 4 = true) : Met l yJ0_init_81219 (Cond.code yJ0_init_81219 cJ0_init_81219 2 none :: rc_big) ({ frames := 4, cells := 1, slots := 4, locals := 119 } : Room) (rc_Px Y sh rf σ sz x 0 [.null, .int 0, .int 0, .int 0] [.ref x, .ref sb]) (va_Qv (fun (_ : Unit) => True) (fun _ t => rc_pS Y sh rf σ 13 (rc_gc (σ (rf sb 0)) 4) sz x t.heap) (rc_A (rc_xs sh x 13) sz)) 1 4 (rc_A (rc_xs sh x 13) sz) := by
  refine rc_ofWF (cc := cJ0_init_81219) (maxL := 2) (ret := none) (by decide +kernel) rfl ?_
  intro p e s m args below meth c s₁ B hml hv
  obtain ⟨rfl, hsz, ⟨hW, hK, hE⟩, hX⟩ := hv
  have hx := B.exec
  have hb := B.bytes
  have hr := B.returns
  have hts : ∀ w ∈ rc_big, w.before _ s = true := fun w h => atoms_spec (ws := Cond.code yJ0_init_81219 cJ0_init_81219 2 none :: rc_big) B.pre w (List.mem_cons_of_mem _ h)
  have hown : s.vm.findClass RJ0 = some m.cls := findClass_of_methodNamed B.named
  have hlocks := B.notSynchronized
  clear B
  subst hsz
  have hl := lv_entry ([.ref x, .ref sb]) (n := 2) (Nat.le_of_ble_eq_true rfl)
  rw [lg_entry_eq]
  generalize (lg_sl ([.ref x, .ref sb]) ++ List.replicate (2 - (lg_sl ([.ref x, .ref sb])).length) Slot.unset).toArray = ls at hl ⊢
  have hl : lv_has ls 2 [(0, .ref x), (1, .ref sb)] := hl
  have hS : va_S (rc_A (rc_xs sh x 13) s.heap.size) s.heap s.heap [] := va_S.rf
  have hB : va_S (fun q => Y.1 ≤ q) s.heap s.heap [] := va_S.rf
  refine lv_aload_n hx hb dJ0_init_81219_0 rfl (lv_at hl 0 rfl) ?_
  refine lv_aload_n hx hb dJ0_init_81219_1 rfl (lv_at hl 1 rfl) ?_
  refine lv_null hx hb dJ0_init_81219_2 ?_
  refine rc_gv (B := rc_pS Y sh rf σ 13 (rc_gc (σ (rf sb 0)) 4) s.heap.size x) hS (fun _ h => h) (va_runI (As := [.ref sb, .null]) (rest := []) ⟨hx, hb, hml, hown, hts⟩ (kn_J0_init_db425_13 l hT x sb hx0 hYx hsb s.heap.size σ hs1 hs3 hfit) (cwI 2 hts (rc_gI tw_5_51) rfl rfl rfl (hts _ tw_1_12) (hts _ tw_5_49) (hts _ tw_5_50) rfl (by decide +kernel) ⟨Nat.le_of_ble_eq_true rfl, Nat.le_of_ble_eq_true rfl⟩) (rc_prex hW hK hE hB hX [.ref x, .ref sb, .null]) rfl rfl hl.1 rfl (lv_room (Nat.le_of_ble_eq_true rfl)) dJ0_init_81219_3 ⟨Nat.le_of_ble_eq_true rfl, Nat.le_of_ble_eq_true rfl⟩) (fun H locs hBx _ _ hS => ?_)
  exact rc_vretB (B := rc_pS Y sh rf σ 13 (rc_gc (σ (rf sb 0)) 4) s.heap.size x) hx hb hr hlocks hBx hS (Nat.le_of_ble_eq_true rfl) (Nat.le_of_ble_eq_true rfl) dJ0_init_81219_6
set_option maxHeartbeats 4000000 in
set_option maxRecDepth 100000 in
theorem kn_J4_toString_0e30d_13 (l : Launch) {Y : rc_Y} {sh : Nat → Nat} {rf : rc_F} (hT : rc_T Y sh rf) (sb : Nat) (hsb : sh sb = 11) (sz : Nat) (σ : rc_S) (hs1 : σ sb 1 = 0) (hs3 : σ sb 3 = 4) (hfit : rc_cpk (σ (rf sb 0)) (0 : Int32) (0 : Int32) (4 : Int32) 16 4 = true) : Met l yJ4_toString_0e30d (Cond.code yJ4_toString_0e30d cJ4_toString_0e30d 1 (some (.object "java/lang/String")) :: rc_big) ({ frames := 5, cells := 2, slots := 8, locals := 149 } : Room) (rc_P Y sh rf σ sz [.ref sb]) (va_Qr (fun (_ : Unit) => True) (fun _ a t => rc_pT Y sh rf σ 13 (rc_gc (σ (rf sb 0)) 4) sz a t.heap) (rc_A sh sz)) 2 8 (rc_A sh sz) := by
  refine rc_ofWF (cc := cJ4_toString_0e30d) (maxL := 1) (ret := (some (.object "java/lang/String"))) (by decide +kernel) rfl ?_
  intro p e s m args below meth c s₁ B hml hv
  obtain ⟨rfl, hsz, hW, hK, hE⟩ := hv
  have hx := B.exec
  have hb := B.bytes
  have hr := B.returns
  have hts : ∀ w ∈ rc_big, w.before _ s = true := fun w h => atoms_spec (ws := Cond.code yJ4_toString_0e30d cJ4_toString_0e30d 1 (some (.object "java/lang/String")) :: rc_big) B.pre w (List.mem_cons_of_mem _ h)
  have hown : s.vm.findClass RJ4 = some m.cls := findClass_of_methodNamed B.named
  have hlocks := B.notSynchronized
  clear B
  subst hsz
  have hl := lv_entry ([.ref sb]) (n := 1) (Nat.le_of_ble_eq_true rfl)
  rw [lg_entry_eq]
  generalize (lg_sl ([.ref sb]) ++ List.replicate (1 - (lg_sl ([.ref sb])).length) Slot.unset).toArray = ls at hl ⊢
  have hl : lv_has ls 1 [(0, .ref sb)] := hl
  have hS : va_S (rc_A sh s.heap.size) s.heap s.heap [] := va_S.rf
  refine rc_newR (C := RJ0) (T := TJ0) (N := 4) (ci := 0) (fs := [.null, .int 0, .int 0, .int 0]) hx hb hts in_12 tyJ0 tyJ0_ok hown (hts _ tw_5_45) (hts _ tw_2_195) (hts _ tw_1_12) hK rfl (fun j hj => by
    rcases (show j = 0 ∨ j = 1 ∨ j = 2 ∨ j = 3 by omega) with rfl | rfl | rfl | rfl <;> rfl) (Nat.le_of_ble_eq_true rfl) (Nat.le_of_ble_eq_true rfl) dJ4_toString_0e30d_0 (fun H1 hX z1 o1 => ?_)
  have hx0 : sh s.heap.size = 0 := Classical.byContradiction (fun h => Nat.lt_irrefl _ (hW.lt h))
  have hW1 : rc_W Y sh rf σ H1 := hW.kept (fun q h => o1 q (hW.lt h))
  have hS1 : va_S (rc_A sh s.heap.size) s.heap H1 [] := ⟨by rw [z1]; exact Nat.le_succ _, fun q g1 _ => o1 q g1, hS.2.2⟩
  have hB := rc_SB hT hE hS1
  refine lv_dup hx hb dJ4_toString_0e30d_3 rfl ?_
  refine lv_aload_n hx hb dJ4_toString_0e30d_4 rfl (lv_at hl 0 rfl) ?_
  refine rc_gv (B := rc_pS Y sh rf σ 13 (rc_gc (σ (rf sb 0)) 4) H1.size s.heap.size) hS1 (fun q h => ?_) (va_runI (As := [.ref sb]) (rest := [.ref s.heap.size]) ⟨hx, hb, hml, hown, hts⟩ (kn_J0_init_81219_13 l hT s.heap.size sb hx0 hE.1 hsb H1.size σ hs1 hs3 hfit) (cwI 1 hts (rc_gI tw_5_48) rfl rfl rfl (hts _ tw_1_12) (hts _ tw_5_46) (hts _ tw_5_47) rfl (by decide +kernel) ⟨Nat.le_of_ble_eq_true rfl, Nat.le_of_ble_eq_true rfl⟩) (rc_prex hW1 hK hE hB hX [.ref s.heap.size, .ref sb]) rfl rfl hl.1 rfl (lv_room (Nat.le_of_ble_eq_true rfl)) dJ4_toString_0e30d_5 ⟨Nat.le_of_ble_eq_true rfl, Nat.le_of_ble_eq_true rfl⟩) (fun H locs hBx _ _ hS => ?_)
  · rcases h with h | h
    · by_cases e : q = s.heap.size
      · exact Or.inr (Nat.le_of_eq e.symm)
      · rw [rc_xs_n e] at h; exact Or.inl h
    · exact Or.inr (Nat.le_trans hS1.1 h)
  · refine rc_rret (B := rc_pT Y sh rf σ 13 (rc_gc (σ (rf sb 0)) 4) s.heap.size) hx hb hr (Or.inl ⟨_, rfl⟩) hlocks ?_ hS (Nat.le_of_ble_eq_true rfl) (Nat.le_of_ble_eq_true rfl) dJ4_toString_0e30d_8
    obtain ⟨a, ha, hax, hWx⟩ := hBx
    exact ⟨Nat.le_refl _, a, Nat.le_trans hS1.1 ha, hax, hWx⟩
set_option maxHeartbeats 4000000 in
set_option maxRecDepth 100000 in
theorem kn_J7_copyOfRangeByte_39247_14 (l : Launch) {Y : rc_Y} {sh : Nat → Nat} {rf : rc_F} (hT : rc_T Y sh rf) (q0 : Nat) (hq0 : sh q0 = 24) (sz : Nat) (σ : rc_S) (hfit : rc_cpk (σ q0) (0 : Int32) (0 : Int32) (6 : Int32) 16 6 = true) : Met l yJ7_copyOfRangeByte_39247 (Cond.code yJ7_copyOfRangeByte_39247 cJ7_copyOfRangeByte_39247 5 (some (.array .byte)) :: rc_big) ({ frames := 1, cells := 1, slots := 6, locals := 40 } : Room) (rc_P Y sh rf σ sz [.ref q0, .int 0, .int 6]) (va_Qr (fun (_ : Unit) => True) (fun _ a t => rc_pB Y sh rf σ 34 (rc_gc (σ q0) 6) sz a t.heap) (rc_A sh sz)) 1 6 (rc_A sh sz) := by
  refine rc_ofWF (cc := cJ7_copyOfRangeByte_39247) (maxL := 5) (ret := (some (.array .byte))) (by decide +kernel) rfl ?_
  intro p e s m args below meth c s₁ B hml hv
  obtain ⟨rfl, hsz, hW, hK, hE⟩ := hv
  have hx := B.exec
  have hb := B.bytes
  have hr := B.returns
  have hts : ∀ w ∈ rc_big, w.before _ s = true := fun w h => atoms_spec (ws := Cond.code yJ7_copyOfRangeByte_39247 cJ7_copyOfRangeByte_39247 5 (some (.array .byte)) :: rc_big) B.pre w (List.mem_cons_of_mem _ h)
  have hown : s.vm.findClass RJ7 = some m.cls := findClass_of_methodNamed B.named
  have hlocks := B.notSynchronized
  clear B
  subst hsz
  have hl := lv_entry ([.ref q0, .int 0, .int 6]) (n := 5) (Nat.le_of_ble_eq_true rfl)
  rw [lg_entry_eq]
  generalize (lg_sl ([.ref q0, .int 0, .int 6]) ++ List.replicate (5 - (lg_sl ([.ref q0, .int 0, .int 6])).length) Slot.unset).toArray = ls at hl ⊢
  have hl : lv_has ls 5 [(0, .ref q0), (1, .int 0), (2, .int 6)] := hl
  have hS : va_S (rc_A sh s.heap.size) s.heap s.heap [] := va_S.rf
  refine lv_iload_n hx hb dJ7_copyOfRangeByte_39247_0 rfl (lv_at hl 1 rfl) ?_
  refine lv_iload_n hx hb dJ7_copyOfRangeByte_39247_1 rfl (lv_at hl 2 rfl) ?_
  have hc_1 : f_J7_checkLength_df160 rf 0 6 σ = some ((), σ) := if_pos (by decide)
  refine rc_cv hS (va_runS (As := [.int 0, .int 6]) (rest := []) ⟨hx, hb, hml, hown, hts⟩ (k_J7_checkLength_df160 l hT 0 6  s.heap.size _ _ _ hc_1) (va_cwS 2 hts (rc_gS tw_5_73 tw_5_74 tw_1_23 tw_5_75) rfl rfl rfl (by decide +kernel) ⟨Nat.le_of_ble_eq_true rfl, Nat.le_of_ble_eq_true rfl⟩) (rc_preS hT hW hK hE hS [.int 0, .int 6]) rfl rfl hl.1 rfl (lv_room (Nat.le_of_ble_eq_true rfl)) dJ7_copyOfRangeByte_39247_2 ⟨Nat.le_of_ble_eq_true rfl, Nat.le_of_ble_eq_true rfl⟩) (fun H locs hW hS => ?_)
  refine lv_iload_n hx hb dJ7_copyOfRangeByte_39247_5 rfl (lv_at hl 2 rfl) ?_
  refine lv_iload_n hx hb dJ7_copyOfRangeByte_39247_6 rfl (lv_at hl 1 rfl) ?_
  refine lv_isub hx hb dJ7_copyOfRangeByte_39247_7 ?_
  rw [show ((6 - 0) : Int32) = 6 from by decide]
  refine lv_istore_n (lv' := [(3, .int (6 : Int32)), (0, .ref q0), (1, .int 0), (2, .int 6)]) hx hb dJ7_copyOfRangeByte_39247_8 rfl hl (by decide) rfl (fun ls hl => ?_)
  refine lv_iload_n hx hb dJ7_copyOfRangeByte_39247_9 rfl (lv_at hl 0 rfl) ?_
  refine rc_newaR hx hb (hts _ tw_2_81) hK (by decide) (show (6 : Int32).toNatClampNeg = 6 by decide) (by decide) (Nat.le_of_ble_eq_true rfl) (Nat.le_of_ble_eq_true rfl) dJ7_copyOfRangeByte_39247_10 (fun H1 hat z1 o1 => ?_)
  have hsz : s.heap.size ≤ H.size := hS.1
  have hYz : Y.1 ≤ H.size := Nat.le_trans hE.1 hS.1
  have h0z : sh H.size = 0 := Classical.byContradiction (fun h => Nat.lt_irrefl _ (hW.lt h))
  have hlt : ∀ q, sh q ≠ 0 → q < H.size := fun q h => hW.lt h
  have hS1 : va_S (rc_A sh s.heap.size) s.heap H1 locs := ⟨by rw [z1]; exact Nat.le_succ_of_le hS.1, fun q g1 g2 => (o1 q (Nat.lt_of_lt_of_le g1 hS.1)).trans (hS.2.1 q g1 g2), hS.2.2⟩
  generalize H.size = z at hat z1 o1 hsz hYz h0z hlt ⊢
  have hqz : q0 ≠ z := fun e => by rw [e, h0z] at hq0; cases hq0
  obtain ⟨σz, hσz⟩ : ∃ σz : rc_S, σz = rc_row σ z (fun _ => 0) := ⟨_, rfl⟩
  have hW1 : rc_W Y (rc_xs sh z 34) rf σz H1 := rc_xsW (σ1 := σz) hW h0z (fun q h => o1 q (hlt q h)) (by rw [hσz]; unfold rc_row; rw [if_pos rfl]; exact hat) (fun q h => by rw [hσz]; exact if_neg h) (fun _ _ => rfl)
  have hT0 := hT
  have hT := rc_xsT hT h0z hYz (t := 34) (by decide)
  have hW := hW1
  have hS : va_S (rc_A (rc_xs sh z 34) s.heap.size) s.heap H1 locs := by rw [rc_xsA hsz]; exact hS1
  have hq0 := rc_xk (a := z) (t := 34) h0z hq0 (by decide)
  have hzz : rc_xs sh z 34 z = 34 := rc_xs_e
  refine lv_astore (lv' := [(4, .ref z), (3, .int (6 : Int32)), (0, .ref q0), (1, .int 0), (2, .int 6)]) hx hb dJ7_copyOfRangeByte_39247_12 hl (by decide) rfl (fun ls hl => ?_)
  refine lv_aload_n hx hb dJ7_copyOfRangeByte_39247_14 rfl (lv_at hl 2 rfl) ?_
  refine lv_iload_n hx hb dJ7_copyOfRangeByte_39247_15 rfl (lv_at hl 3 rfl) ?_
  refine lv_aload hx hb dJ7_copyOfRangeByte_39247_16 (lv_at hl 0 rfl) ?_
  refine lv_iconst (v := 0) hx hb dJ7_copyOfRangeByte_39247_18 (by decide) ?_
  refine lv_aload_n hx hb dJ7_copyOfRangeByte_39247_19 rfl (lv_at hl 2 rfl) ?_
  refine rc_alen (v := 16) hx hb hK hW hq0 (by decide) rfl 3 rfl rfl dJ7_copyOfRangeByte_39247_20 ?_
  refine lv_iload_n hx hb dJ7_copyOfRangeByte_39247_21 rfl (lv_at hl 3 rfl) ?_
  refine lv_isub hx hb dJ7_copyOfRangeByte_39247_22 ?_
  rw [show (((16 : Int32) - 0) : Int32) = 16 from by decide]
  refine lv_iload_n hx hb dJ7_copyOfRangeByte_39247_23 rfl (lv_at hl 1 rfl) ?_
  refine va_mmin hx hb (hml.trans hl.1.symm) hown (hts _ tw_4_176) (hts _ tw_3_31) (hts _ tw_1_22) (hts _ tw_3_32) (Nat.le_of_ble_eq_true rfl) (Nat.le_of_ble_eq_true rfl) (Nat.le_of_ble_eq_true rfl) (Nat.le_of_ble_eq_true rfl) dJ7_copyOfRangeByte_39247_24 ?_
  rw [show ((if (6 : Int32) < (16 : Int32) then (6 : Int32) else (16 : Int32)) : Int32) = 6 from by decide]
  have hq : rc_cpk (σz q0) (0 : Int32) (0 : Int32) (6 : Int32) 16 6 = true := by
    rw [hσz]; unfold rc_row; rw [if_neg hqz]; exact hfit
  refine rc_copyw hx hb (hml.trans hl.1.symm) hown (hts _ tw_4_177) (hts _ tw_4_179) (hts _ tw_4_178) (hts _ tw_1_24) hK hW hS hq0 (by decide) (fun _ => rfl) hzz (by decide) (fun _ => rfl) hq (Nat.le_of_ble_eq_true rfl) (Nat.le_of_ble_eq_true rfl) dJ7_copyOfRangeByte_39247_27 (fun σ2 H locs eσ hW hS => ?_)
  refine lv_aload hx hb dJ7_copyOfRangeByte_39247_30 (lv_at hl 0 rfl) ?_
  rw [rc_xsA hsz] at hS
  refine rc_rret (B := rc_pB Y sh rf σ 34 (rc_gc (σ q0) 6) s.heap.size) hx hb hr (Or.inr ⟨_, rfl⟩) hlocks ⟨hsz, ?_⟩ hS (Nat.le_of_ble_eq_true rfl) (Nat.le_of_ble_eq_true rfl) dJ7_copyOfRangeByte_39247_32
  have ee : σ2 = rc_row σ z (rc_gc (σ q0) 6) := by
    rw [eσ, hσz]
    funext b
    unfold rc_row rc_gc
    by_cases h : b = z
    · rw [if_pos h, if_pos h, if_pos rfl, if_neg hqz]
    · rw [if_neg h, if_neg h, if_neg h]
  rw [← ee]
  exact hW
set_option maxHeartbeats 4000000 in
set_option maxRecDepth 100000 in
theorem kn_J7_copyOfRange_39247_14 (l : Launch) {Y : rc_Y} {sh : Nat → Nat} {rf : rc_F} (hT : rc_T Y sh rf) (q0 : Nat) (hq0 : sh q0 = 24) (sz : Nat) (σ : rc_S) (hfit : rc_cpk (σ q0) (0 : Int32) (0 : Int32) (6 : Int32) 16 6 = true) : Met l yJ7_copyOfRange_39247 (Cond.code yJ7_copyOfRange_39247 cJ7_copyOfRange_39247 3 (some (.array .byte)) :: rc_big) ({ frames := 2, cells := 1, slots := 6, locals := 64 } : Room) (rc_P Y sh rf σ sz [.ref q0, .int 0, .int 6]) (va_Qr (fun (_ : Unit) => True) (fun _ a t => rc_pB Y sh rf σ 34 (rc_gc (σ q0) 6) sz a t.heap) (rc_A sh sz)) 1 6 (rc_A sh sz) := by
  refine rc_ofWF (cc := cJ7_copyOfRange_39247) (maxL := 3) (ret := (some (.array .byte))) (by decide +kernel) rfl ?_
  intro p e s m args below meth c s₁ B hml hv
  obtain ⟨rfl, hsz, hW, hK, hE⟩ := hv
  have hx := B.exec
  have hb := B.bytes
  have hr := B.returns
  have hts : ∀ w ∈ rc_big, w.before _ s = true := fun w h => atoms_spec (ws := Cond.code yJ7_copyOfRange_39247 cJ7_copyOfRange_39247 3 (some (.array .byte)) :: rc_big) B.pre w (List.mem_cons_of_mem _ h)
  have hown : s.vm.findClass RJ7 = some m.cls := findClass_of_methodNamed B.named
  have hlocks := B.notSynchronized
  clear B
  subst hsz
  have hl := lv_entry ([.ref q0, .int 0, .int 6]) (n := 3) (Nat.le_of_ble_eq_true rfl)
  rw [lg_entry_eq]
  generalize (lg_sl ([.ref q0, .int 0, .int 6]) ++ List.replicate (3 - (lg_sl ([.ref q0, .int 0, .int 6])).length) Slot.unset).toArray = ls at hl ⊢
  have hl : lv_has ls 3 [(0, .ref q0), (1, .int 0), (2, .int 6)] := hl
  have hS : va_S (rc_A sh s.heap.size) s.heap s.heap [] := va_S.rf
  refine lv_iload_n hx hb dJ7_copyOfRange_39247_0 rfl (lv_at hl 1 rfl) ?_
  refine lv_if_ne (tgt := 10) hx hb dJ7_copyOfRange_39247_1 (by decide) (fun c9 => absurd c9 (by decide)) (fun _ => ?_)
  refine lv_iload_n hx hb dJ7_copyOfRange_39247_4 rfl (lv_at hl 2 rfl) ?_
  refine lv_aload_n hx hb dJ7_copyOfRange_39247_5 rfl (lv_at hl 0 rfl) ?_
  refine rc_alen (v := 16) hx hb hK hW hq0 (by decide) rfl 3 rfl rfl dJ7_copyOfRange_39247_6 ?_
  refine lv_icmp_eq (tgt := 17) hx hb dJ7_copyOfRange_39247_7 (by decide) (fun c9 => absurd c9 (by decide)) (fun _ => ?_)
  refine lv_aload_n hx hb dJ7_copyOfRange_39247_10 rfl (lv_at hl 0 rfl) ?_
  refine lv_iload_n hx hb dJ7_copyOfRange_39247_11 rfl (lv_at hl 1 rfl) ?_
  refine lv_iload_n hx hb dJ7_copyOfRange_39247_12 rfl (lv_at hl 2 rfl) ?_
  refine rc_rcall (B := rc_pB Y sh rf σ 34 (rc_gc (σ q0) 6) s.heap.size) hS rc_Ain (fun q h => Or.inr h) (rc_Afr hS) (va_runS (As := [.ref q0, .int 0, .int 6]) (rest := []) ⟨hx, hb, hml, hown, hts⟩ (kn_J7_copyOfRangeByte_39247_14 l hT q0 hq0 s.heap.size σ hfit) (va_cwS 3 hts (rc_gS tw_5_70 tw_5_71 tw_1_23 tw_5_72) rfl rfl rfl (by decide +kernel) ⟨Nat.le_of_ble_eq_true rfl, Nat.le_of_ble_eq_true rfl⟩) (rc_preS hT hW hK hE hS [.ref q0, .int 0, .int 6]) rfl rfl hl.1 rfl (lv_room (Nat.le_of_ble_eq_true rfl)) dJ7_copyOfRange_39247_13 ⟨Nat.le_of_ble_eq_true rfl, Nat.le_of_ble_eq_true rfl⟩) (fun v H locs hB _ _ hS => ?_)
  exact rc_rret (B := rc_pB Y sh rf σ 34 (rc_gc (σ q0) 6) s.heap.size) hx hb hr (Or.inr ⟨_, rfl⟩) hlocks hB hS (Nat.le_of_ble_eq_true rfl) (Nat.le_of_ble_eq_true rfl) dJ7_copyOfRange_39247_16
set_option maxHeartbeats 4000000 in
set_option maxRecDepth 100000 in
theorem kn_J0_init_db425_14 (l : Launch) {Y : rc_Y} {sh : Nat → Nat} {rf : rc_F} (hT : rc_T Y sh rf) (x sb : Nat) (hx0 : sh x = 0) (hYx : Y.1 ≤ x) (hsb : sh sb = 11) (sz : Nat) (σ : rc_S) (hs1 : σ sb 1 = 0) (hs3 : σ sb 3 = 6) (hfit : rc_cpk (σ (rf sb 0)) (0 : Int32) (0 : Int32) (6 : Int32) 16 6 = true) : Met l yJ0_init_db425 (Cond.code yJ0_init_db425 cJ0_init_db425 5 none :: rc_big) ({ frames := 3, cells := 1, slots := 6, locals := 95 } : Room) (rc_Px Y sh rf σ sz x 0 [.null, .int 0, .int 0, .int 0] [.ref x, .ref sb, .null]) (va_Qv (fun (_ : Unit) => True) (fun _ t => rc_pS Y sh rf σ 14 (rc_gc (σ (rf sb 0)) 6) sz x t.heap) (rc_A (rc_xs sh x 14) sz)) 1 6 (rc_A (rc_xs sh x 14) sz) := by
  refine rc_ofWF (cc := cJ0_init_db425) (maxL := 5) (ret := none) (by decide +kernel) rfl ?_
  intro p e s m args below meth c s₁ B hml hv
  obtain ⟨rfl, hsz, ⟨hW, hK, hE⟩, hX⟩ := hv
  have hx := B.exec
  have hb := B.bytes
  have hr := B.returns
  have hts : ∀ w ∈ rc_big, w.before _ s = true := fun w h => atoms_spec (ws := Cond.code yJ0_init_db425 cJ0_init_db425 5 none :: rc_big) B.pre w (List.mem_cons_of_mem _ h)
  have hown : s.vm.findClass RJ0 = some m.cls := findClass_of_methodNamed B.named
  have hin : meth.name = "<init>" := (name_of_methodNamed B.named B.method).1
  have hlocks := B.notSynchronized
  clear B
  subst hsz
  have hl := lv_entry ([.ref x, .ref sb, .null]) (n := 5) (Nat.le_of_ble_eq_true rfl)
  rw [lg_entry_eq]
  generalize (lg_sl ([.ref x, .ref sb, .null]) ++ List.replicate (5 - (lg_sl ([.ref x, .ref sb, .null])).length) Slot.unset).toArray = ls at hl ⊢
  have hl : lv_has ls 5 [(0, .ref x), (1, .ref sb), (2, .null)] := hl
  have hS : va_S (rc_A (rc_xs sh x 14) s.heap.size) s.heap s.heap [] := va_S.rf
  have hxl : x < s.heap.size := hX.lt
  have hAB : ∀ q, rc_A (rc_xs sh x 14) s.heap.size q → Y.1 ≤ q := fun q h => by
    rcases h with h | h
    · by_cases e : q = x
      · rw [e]; exact hYx
      · rw [rc_xs_n e] at h; exact rc_t_b hT h
    · exact Nat.le_trans hE.1 h
  have hAs : ∀ n, s.heap.size ≤ n → ∀ q, rc_A sh n q → rc_A (rc_xs sh x 14) s.heap.size q := fun n hn q h => by
    rcases h with h | h
    · left
      by_cases e : q = x
      · rw [e, rc_xs_e]; decide
      · rw [rc_xs_n e]; exact h
    · exact Or.inr (Nat.le_trans hn h)
  have hB := rc_mono hS hAB
  refine lv_aload_n hx hb dJ0_init_db425_0 rfl (lv_at hl 0 rfl) ?_
  refine W.objInit hx hb hown (hts _ tw_5_52) (hts _ tw_1_40) (hts _ tw_1_41) rfl (by rw [hml]; exact hl.1) rfl dJ0_init_db425_1 (Nat.le_of_ble_eq_true rfl) (Nat.le_of_ble_eq_true rfl) ?_
  refine W.eq (g2 := F0 m 4 ls []) rfl ?_
  refine lv_aload_n hx hb dJ0_init_db425_4 rfl (lv_at hl 1 rfl) ?_
  have hc : f_J5_getValue_6d5f1 rf sb σ = some (rf sb 0, σ) := rfl
  refine rc_gr hS (hAs _ hS.1) (va_runU (As := []) (rest := []) ⟨hx, hb, hml, hown, hts⟩ (k_J5_getValue_6d5f1 l hT sb hsb s.heap.size _ _ _ hc) (va_cwU (owner := "java/lang/AbstractStringBuilder") 0 hts (rc_gU tw_5_53 tw_5_55 tw_5_56 tw_5_54 tw_1_10 tw_5_57) rfl rfl rfl rfl (by decide +kernel) ⟨Nat.le_of_ble_eq_true rfl, Nat.le_of_ble_eq_true rfl⟩) (rc_preVB hW hK hE hB hsb (by decide) rfl (q := (RJ4, TJ4, 4)) rfl []) rfl rfl hl.1 rfl (lv_room (Nat.le_of_ble_eq_true rfl)) dJ0_init_db425_5 ⟨Nat.le_of_ble_eq_true rfl, Nat.le_of_ble_eq_true rfl⟩) (fun H locs hW1 _ hq1 hS => ?_)
  have hX := hX.kept (hq1 x hX.lt (fun h => h.elim (fun h => h hx0) (fun h => absurd hX.lt (Nat.not_lt.mpr h))))
  have hB := rc_mono hS hAB
  have hW := hW1
  refine lv_astore_n (lv' := [(3, .ref (rf sb 0)), (0, .ref x), (1, .ref sb), (2, .null)]) hx hb dJ0_init_db425_8 rfl hl (by decide) rfl (fun ls hl => ?_)
  refine lv_aload_n hx hb dJ0_init_db425_9 rfl (lv_at hl 2 rfl) ?_
  have hc : f_J4_length_8abf5 rf sb σ = some (6, σ) := by
    rw [f_J4_length_8abf5, f_J5_length_8abf5, pq_bd, hs3]
  refine rc_gi hS (hAs _ hS.1) (va_runU (As := []) (rest := []) ⟨hx, hb, hml, hown, hts⟩ (k_J4_length_8abf5 l hT sb hsb H.size _ _ _ hc) (va_cwO (owner := "java/lang/AbstractStringBuilder") 0 hts (rc_gO tw_5_58 tw_5_60 tw_5_59 tw_5_61 tw_5_62 tw_1_11 tw_5_63) rfl rfl rfl tw_5_65 (by decide +kernel) ⟨Nat.le_of_ble_eq_true rfl, Nat.le_of_ble_eq_true rfl⟩) (rc_preVB hW hK hE hB hsb (by decide) rfl (q := (RJ4, TJ4, 4)) rfl []) rfl rfl hl.1 rfl (lv_room (Nat.le_of_ble_eq_true rfl)) dJ0_init_db425_10 ⟨Nat.le_of_ble_eq_true rfl, Nat.le_of_ble_eq_true rfl⟩) (fun H locs hW1 _ hq1 hS => ?_)
  have hX := hX.kept (hq1 x hX.lt (fun h => h.elim (fun h => h hx0) (fun h => absurd hX.lt (Nat.not_lt.mpr h))))
  have hB := rc_mono hS hAB
  have hW := hW1
  refine lv_istore (lv' := [(4, .int 6), (3, .ref (rf sb 0)), (0, .ref x), (1, .ref sb), (2, .null)]) hx hb dJ0_init_db425_13 hl (by decide) rfl (fun ls hl => ?_)
  refine lv_aload_n hx hb dJ0_init_db425_15 rfl (lv_at hl 3 rfl) ?_
  have hc : f_J5_isLatin1_aae02 rf sb σ = some (1, σ) := by
    rw [f_J5_isLatin1_aae02, if_pos hs1]
  refine rc_gi hS (hAs _ hS.1) (va_runU (As := []) (rest := []) ⟨hx, hb, hml, hown, hts⟩ (k_J5_isLatin1_aae02 l hT sb hsb H.size _ _ _ hc) (va_cwU (owner := "java/lang/AbstractStringBuilder") 0 hts (rc_gU tw_5_66 tw_4_182 tw_4_183 tw_4_181 tw_1_10 tw_4_184) rfl rfl rfl rfl (by decide +kernel) ⟨Nat.le_of_ble_eq_true rfl, Nat.le_of_ble_eq_true rfl⟩) (rc_preVB hW hK hE hB hsb (by decide) rfl (q := (RJ4, TJ4, 4)) rfl []) rfl rfl hl.1 rfl (lv_room (Nat.le_of_ble_eq_true rfl)) dJ0_init_db425_16 ⟨Nat.le_of_ble_eq_true rfl, Nat.le_of_ble_eq_true rfl⟩) (fun H locs hW1 _ hq1 hS => ?_)
  have hX := hX.kept (hq1 x hX.lt (fun h => h.elim (fun h => h hx0) (fun h => absurd hX.lt (Nat.not_lt.mpr h))))
  have hB := rc_mono hS hAB
  have hW := hW1
  refine lv_if_eq (tgt := 41) hx hb dJ0_init_db425_19 (by decide) (fun c9 => absurd c9 (by decide)) (fun _ => ?_)
  refine lv_aload_n hx hb dJ0_init_db425_22 rfl (lv_at hl 2 rfl) ?_
  refine lv_iconst (v := 0) hx hb dJ0_init_db425_23 (by decide) ?_
  refine rc_putR (C := RJ0) (T := TJ0) (N := 4) (ci := 0) hx hb hts in_12 tyJ0 tyJ0_ok nmJ0 hown hK hX rfl 1 (by decide) (hts _ tw_5_101) (fun _ h => h) (Or.inr ⟨rfl, hin, rfl⟩) (ty := tyJ0 1) (by decide +kernel) rfl rfl (Nat.le_of_ble_eq_true rfl) dJ0_init_db425_24 (fun H1 locs1 hX1 z1 o1 hl1 => ?_)
  have hS1 : va_S (rc_A (rc_xs sh x 14) s.heap.size) s.heap H1 locs1 := rc_Sput hS z1 o1 hl1 (Or.inl (by rw [rc_xs_e]; decide))
  have hW1 : rc_W Y sh rf σ H1 := hW.kept (fun q h => o1 q (fun e => h (by rw [e]; exact hx0)))
  have hW := hW1
  have hX : va_at Y.2.1 vwCl (x, .inr (0, [.null, .int 0, .int 0, .int 0])) H1 := hX1
  have hS := hS1
  have hB := rc_mono hS hAB
  refine lv_aload_n hx hb dJ0_init_db425_27 rfl (lv_at hl 2 rfl) ?_
  refine lv_aload_n hx hb dJ0_init_db425_28 rfl (lv_at hl 1 rfl) ?_
  refine lv_iconst (v := 0) hx hb dJ0_init_db425_29 (by decide) ?_
  refine lv_iload hx hb dJ0_init_db425_30 (lv_at hl 0 rfl) ?_
  refine rc_rcall (B := rc_pB Y sh rf σ 34 (rc_gc (σ (rf sb 0)) 6) H1.size) hS (fun q _ h => hAs _ hS.1 q h) (fun q h => Or.inr (Nat.le_trans hS.1 h)) (hAs _ hS.1) (va_runS (As := [.ref (rf sb 0), .int 0, .int 6]) (rest := [.ref x]) ⟨hx, hb, hml, hown, hts⟩ (kn_J7_copyOfRange_39247_14 l hT (rf sb 0) (rc_t_11_0 hT hsb) H1.size σ hfit) (va_cwS 3 hts (rc_gS tw_5_67 tw_5_68 tw_1_23 tw_5_69) rfl rfl rfl (by decide +kernel) ⟨Nat.le_of_ble_eq_true rfl, Nat.le_of_ble_eq_true rfl⟩) (rc_preSB hW hK hE hB [.ref (rf sb 0), .int 0, .int 6]) rfl rfl hl.1 rfl (lv_room (Nat.le_of_ble_eq_true rfl)) dJ0_init_db425_32 ⟨Nat.le_of_ble_eq_true rfl, Nat.le_of_ble_eq_true rfl⟩) (fun a H locs hBa _ hq1 hS => ?_)
  obtain ⟨hla, hWa⟩ := hBa
  have hxa : x < a := Nat.lt_of_lt_of_le hX.lt hla
  have hax : a ≠ x := fun e => Nat.lt_irrefl _ (e ▸ hxa)
  have hsa : s.heap.size ≤ a := Nat.le_trans hS1.1 hla
  have hX := hX.kept (hq1 x hX.lt (fun h => h.elim (fun h => h hx0) (fun h => absurd hX.lt (Nat.not_lt.mpr h))))
  refine rc_putR (C := RJ0) (T := TJ0) (N := 4) (ci := 0) hx hb hts in_12 tyJ0 tyJ0_ok nmJ0 hown hK hX rfl 0 (by decide) (hts _ tw_5_100) (fun _ h => h) (Or.inr ⟨rfl, hin, rfl⟩) (ty := tyJ0 0) (by decide +kernel) rfl rfl (Nat.le_of_ble_eq_true rfl) dJ0_init_db425_35 (fun H1 locs1 hX1 z1 o1 hl1 => ?_)
  have hS1 : va_S (rc_A (rc_xs sh x 14) s.heap.size) s.heap H1 locs1 := rc_Sput hS z1 o1 hl1 (Or.inl (by rw [rc_xs_e]; decide))
  have hX : va_at Y.2.1 vwCl (x, .inr (0, [.ref a, .int 0, .int 0, .int 0])) H1 := hX1
  have hWa1 : rc_W Y (rc_xs sh a 34) rf (rc_row σ a (rc_gc (σ (rf sb 0)) 6)) H1 := hWa.kept (fun q h => o1 q (fun e => h (by rw [e, rc_xs_n (Ne.symm hax)]; exact hx0)))
  have hS := hS1
  have hB := rc_mono hS hAB
  refine lv_goto (tgt := 97) hx hb dJ0_init_db425_38 (by decide) ?_
  refine rc_vretB (B := rc_pS Y sh rf σ 14 (rc_gc (σ (rf sb 0)) 6) s.heap.size x) hx hb hr hlocks ⟨a, hsa, hax, ?_⟩ hS (Nat.le_of_ble_eq_true rfl) (Nat.le_of_ble_eq_true rfl) dJ0_init_db425_97
  refine rc_xsW (σ1 := rc_row (rc_row σ a (rc_gc (σ (rf sb 0)) 6)) x (fun _ => 0)) (rf1 := rc_xr rf x a) hWa1 (by rw [rc_xs_n (Ne.symm hax)]; exact hx0) (fun _ _ => rfl) ?_ (fun q h => if_neg h) (fun q h => rc_xr_n h)
  unfold rc_row
  rw [if_pos rfl, show rc_xr rf x a x = fun _ => a from funext fun _ => if_pos rfl]
  exact hX
set_option maxHeartbeats 4000000 in
set_option maxRecDepth 100000 in
theorem kn_J0_init_81219_14 (l : Launch) {Y : rc_Y} {sh : Nat → Nat} {rf : rc_F} (hT : rc_T Y sh rf) (x sb : Nat) (hx0 : sh x = 0) (hYx : Y.1 ≤ x) (hsb : sh sb = 11) (sz : Nat) (σ : rc_S) (hs1 : σ sb 1 = 0) (hs3 : σ sb 3 = 6) (hfit : rc_cpk (σ (rf sb 0)) (0 : Int32) (0 : Int32) (6 : Int32) 16 6 = true) : Met l yJ0_init_81219 (Cond.code yJ0_init_81219 cJ0_init_81219 2 none :: rc_big) ({ frames := 4, cells := 1, slots := 6, locals := 119 } : Room) (rc_Px Y sh rf σ sz x 0 [.null, .int 0, .int 0, .int 0] [.ref x, .ref sb]) (va_Qv (fun (_ : Unit) => True) (fun _ t => rc_pS Y sh rf σ 14 (rc_gc (σ (rf sb 0)) 6) sz x t.heap) (rc_A (rc_xs sh x 14) sz)) 1 6 (rc_A (rc_xs sh x 14) sz) := by
  refine rc_ofWF (cc := cJ0_init_81219) (maxL := 2) (ret := none) (by decide +kernel) rfl ?_
  intro p e s m args below meth c s₁ B hml hv
  obtain ⟨rfl, hsz, ⟨hW, hK, hE⟩, hX⟩ := hv
  have hx := B.exec
  have hb := B.bytes
  have hr := B.returns
  have hts : ∀ w ∈ rc_big, w.before _ s = true := fun w h => atoms_spec (ws := Cond.code yJ0_init_81219 cJ0_init_81219 2 none :: rc_big) B.pre w (List.mem_cons_of_mem _ h)
  have hown : s.vm.findClass RJ0 = some m.cls := findClass_of_methodNamed B.named
  have hlocks := B.notSynchronized
  clear B
  subst hsz
  have hl := lv_entry ([.ref x, .ref sb]) (n := 2) (Nat.le_of_ble_eq_true rfl)
  rw [lg_entry_eq]
  generalize (lg_sl ([.ref x, .ref sb]) ++ List.replicate (2 - (lg_sl ([.ref x, .ref sb])).length) Slot.unset).toArray = ls at hl ⊢
  have hl : lv_has ls 2 [(0, .ref x), (1, .ref sb)] := hl
  have hS : va_S (rc_A (rc_xs sh x 14) s.heap.size) s.heap s.heap [] := va_S.rf
  have hB : va_S (fun q => Y.1 ≤ q) s.heap s.heap [] := va_S.rf
  refine lv_aload_n hx hb dJ0_init_81219_0 rfl (lv_at hl 0 rfl) ?_
  refine lv_aload_n hx hb dJ0_init_81219_1 rfl (lv_at hl 1 rfl) ?_
  refine lv_null hx hb dJ0_init_81219_2 ?_
  refine rc_gv (B := rc_pS Y sh rf σ 14 (rc_gc (σ (rf sb 0)) 6) s.heap.size x) hS (fun _ h => h) (va_runI (As := [.ref sb, .null]) (rest := []) ⟨hx, hb, hml, hown, hts⟩ (kn_J0_init_db425_14 l hT x sb hx0 hYx hsb s.heap.size σ hs1 hs3 hfit) (cwI 2 hts (rc_gI tw_5_51) rfl rfl rfl (hts _ tw_1_12) (hts _ tw_5_49) (hts _ tw_5_50) rfl (by decide +kernel) ⟨Nat.le_of_ble_eq_true rfl, Nat.le_of_ble_eq_true rfl⟩) (rc_prex hW hK hE hB hX [.ref x, .ref sb, .null]) rfl rfl hl.1 rfl (lv_room (Nat.le_of_ble_eq_true rfl)) dJ0_init_81219_3 ⟨Nat.le_of_ble_eq_true rfl, Nat.le_of_ble_eq_true rfl⟩) (fun H locs hBx _ _ hS => ?_)
  exact rc_vretB (B := rc_pS Y sh rf σ 14 (rc_gc (σ (rf sb 0)) 6) s.heap.size x) hx hb hr hlocks hBx hS (Nat.le_of_ble_eq_true rfl) (Nat.le_of_ble_eq_true rfl) dJ0_init_81219_6
set_option maxHeartbeats 4000000 in
set_option maxRecDepth 100000 in
theorem kn_J4_toString_0e30d_14 (l : Launch) {Y : rc_Y} {sh : Nat → Nat} {rf : rc_F} (hT : rc_T Y sh rf) (sb : Nat) (hsb : sh sb = 11) (sz : Nat) (σ : rc_S) (hs1 : σ sb 1 = 0) (hs3 : σ sb 3 = 6) (hfit : rc_cpk (σ (rf sb 0)) (0 : Int32) (0 : Int32) (6 : Int32) 16 6 = true) : Met l yJ4_toString_0e30d (Cond.code yJ4_toString_0e30d cJ4_toString_0e30d 1 (some (.object "java/lang/String")) :: rc_big) ({ frames := 5, cells := 2, slots := 10, locals := 149 } : Room) (rc_P Y sh rf σ sz [.ref sb]) (va_Qr (fun (_ : Unit) => True) (fun _ a t => rc_pT Y sh rf σ 14 (rc_gc (σ (rf sb 0)) 6) sz a t.heap) (rc_A sh sz)) 2 10 (rc_A sh sz) := by
  refine rc_ofWF (cc := cJ4_toString_0e30d) (maxL := 1) (ret := (some (.object "java/lang/String"))) (by decide +kernel) rfl ?_
  intro p e s m args below meth c s₁ B hml hv
  obtain ⟨rfl, hsz, hW, hK, hE⟩ := hv
  have hx := B.exec
  have hb := B.bytes
  have hr := B.returns
  have hts : ∀ w ∈ rc_big, w.before _ s = true := fun w h => atoms_spec (ws := Cond.code yJ4_toString_0e30d cJ4_toString_0e30d 1 (some (.object "java/lang/String")) :: rc_big) B.pre w (List.mem_cons_of_mem _ h)
  have hown : s.vm.findClass RJ4 = some m.cls := findClass_of_methodNamed B.named
  have hlocks := B.notSynchronized
  clear B
  subst hsz
  have hl := lv_entry ([.ref sb]) (n := 1) (Nat.le_of_ble_eq_true rfl)
  rw [lg_entry_eq]
  generalize (lg_sl ([.ref sb]) ++ List.replicate (1 - (lg_sl ([.ref sb])).length) Slot.unset).toArray = ls at hl ⊢
  have hl : lv_has ls 1 [(0, .ref sb)] := hl
  have hS : va_S (rc_A sh s.heap.size) s.heap s.heap [] := va_S.rf
  refine rc_newR (C := RJ0) (T := TJ0) (N := 4) (ci := 0) (fs := [.null, .int 0, .int 0, .int 0]) hx hb hts in_12 tyJ0 tyJ0_ok hown (hts _ tw_5_45) (hts _ tw_2_195) (hts _ tw_1_12) hK rfl (fun j hj => by
    rcases (show j = 0 ∨ j = 1 ∨ j = 2 ∨ j = 3 by omega) with rfl | rfl | rfl | rfl <;> rfl) (Nat.le_of_ble_eq_true rfl) (Nat.le_of_ble_eq_true rfl) dJ4_toString_0e30d_0 (fun H1 hX z1 o1 => ?_)
  have hx0 : sh s.heap.size = 0 := Classical.byContradiction (fun h => Nat.lt_irrefl _ (hW.lt h))
  have hW1 : rc_W Y sh rf σ H1 := hW.kept (fun q h => o1 q (hW.lt h))
  have hS1 : va_S (rc_A sh s.heap.size) s.heap H1 [] := ⟨by rw [z1]; exact Nat.le_succ _, fun q g1 _ => o1 q g1, hS.2.2⟩
  have hB := rc_SB hT hE hS1
  refine lv_dup hx hb dJ4_toString_0e30d_3 rfl ?_
  refine lv_aload_n hx hb dJ4_toString_0e30d_4 rfl (lv_at hl 0 rfl) ?_
  refine rc_gv (B := rc_pS Y sh rf σ 14 (rc_gc (σ (rf sb 0)) 6) H1.size s.heap.size) hS1 (fun q h => ?_) (va_runI (As := [.ref sb]) (rest := [.ref s.heap.size]) ⟨hx, hb, hml, hown, hts⟩ (kn_J0_init_81219_14 l hT s.heap.size sb hx0 hE.1 hsb H1.size σ hs1 hs3 hfit) (cwI 1 hts (rc_gI tw_5_48) rfl rfl rfl (hts _ tw_1_12) (hts _ tw_5_46) (hts _ tw_5_47) rfl (by decide +kernel) ⟨Nat.le_of_ble_eq_true rfl, Nat.le_of_ble_eq_true rfl⟩) (rc_prex hW1 hK hE hB hX [.ref s.heap.size, .ref sb]) rfl rfl hl.1 rfl (lv_room (Nat.le_of_ble_eq_true rfl)) dJ4_toString_0e30d_5 ⟨Nat.le_of_ble_eq_true rfl, Nat.le_of_ble_eq_true rfl⟩) (fun H locs hBx _ _ hS => ?_)
  · rcases h with h | h
    · by_cases e : q = s.heap.size
      · exact Or.inr (Nat.le_of_eq e.symm)
      · rw [rc_xs_n e] at h; exact Or.inl h
    · exact Or.inr (Nat.le_trans hS1.1 h)
  · refine rc_rret (B := rc_pT Y sh rf σ 14 (rc_gc (σ (rf sb 0)) 6) s.heap.size) hx hb hr (Or.inl ⟨_, rfl⟩) hlocks ?_ hS (Nat.le_of_ble_eq_true rfl) (Nat.le_of_ble_eq_true rfl) dJ4_toString_0e30d_8
    obtain ⟨a, ha, hax, hWx⟩ := hBx
    exact ⟨Nat.le_refl _, a, Nat.le_trans hS1.1 ha, hax, hWx⟩
set_option maxHeartbeats 4000000 in
set_option maxRecDepth 100000 in
theorem kn_J7_copyOfRangeByte_39247_15 (l : Launch) {Y : rc_Y} {sh : Nat → Nat} {rf : rc_F} (hT : rc_T Y sh rf) (q0 : Nat) (hq0 : sh q0 = 24) (sz : Nat) (σ : rc_S) (hfit : rc_cpk (σ q0) (0 : Int32) (0 : Int32) (8 : Int32) 16 8 = true) : Met l yJ7_copyOfRangeByte_39247 (Cond.code yJ7_copyOfRangeByte_39247 cJ7_copyOfRangeByte_39247 5 (some (.array .byte)) :: rc_big) ({ frames := 1, cells := 1, slots := 8, locals := 40 } : Room) (rc_P Y sh rf σ sz [.ref q0, .int 0, .int 8]) (va_Qr (fun (_ : Unit) => True) (fun _ a t => rc_pB Y sh rf σ 35 (rc_gc (σ q0) 8) sz a t.heap) (rc_A sh sz)) 1 8 (rc_A sh sz) := by
  refine rc_ofWF (cc := cJ7_copyOfRangeByte_39247) (maxL := 5) (ret := (some (.array .byte))) (by decide +kernel) rfl ?_
  intro p e s m args below meth c s₁ B hml hv
  obtain ⟨rfl, hsz, hW, hK, hE⟩ := hv
  have hx := B.exec
  have hb := B.bytes
  have hr := B.returns
  have hts : ∀ w ∈ rc_big, w.before _ s = true := fun w h => atoms_spec (ws := Cond.code yJ7_copyOfRangeByte_39247 cJ7_copyOfRangeByte_39247 5 (some (.array .byte)) :: rc_big) B.pre w (List.mem_cons_of_mem _ h)
  have hown : s.vm.findClass RJ7 = some m.cls := findClass_of_methodNamed B.named
  have hlocks := B.notSynchronized
  clear B
  subst hsz
  have hl := lv_entry ([.ref q0, .int 0, .int 8]) (n := 5) (Nat.le_of_ble_eq_true rfl)
  rw [lg_entry_eq]
  generalize (lg_sl ([.ref q0, .int 0, .int 8]) ++ List.replicate (5 - (lg_sl ([.ref q0, .int 0, .int 8])).length) Slot.unset).toArray = ls at hl ⊢
  have hl : lv_has ls 5 [(0, .ref q0), (1, .int 0), (2, .int 8)] := hl
  have hS : va_S (rc_A sh s.heap.size) s.heap s.heap [] := va_S.rf
  refine lv_iload_n hx hb dJ7_copyOfRangeByte_39247_0 rfl (lv_at hl 1 rfl) ?_
  refine lv_iload_n hx hb dJ7_copyOfRangeByte_39247_1 rfl (lv_at hl 2 rfl) ?_
  have hc_1 : f_J7_checkLength_df160 rf 0 8 σ = some ((), σ) := if_pos (by decide)
  refine rc_cv hS (va_runS (As := [.int 0, .int 8]) (rest := []) ⟨hx, hb, hml, hown, hts⟩ (k_J7_checkLength_df160 l hT 0 8  s.heap.size _ _ _ hc_1) (va_cwS 2 hts (rc_gS tw_5_73 tw_5_74 tw_1_23 tw_5_75) rfl rfl rfl (by decide +kernel) ⟨Nat.le_of_ble_eq_true rfl, Nat.le_of_ble_eq_true rfl⟩) (rc_preS hT hW hK hE hS [.int 0, .int 8]) rfl rfl hl.1 rfl (lv_room (Nat.le_of_ble_eq_true rfl)) dJ7_copyOfRangeByte_39247_2 ⟨Nat.le_of_ble_eq_true rfl, Nat.le_of_ble_eq_true rfl⟩) (fun H locs hW hS => ?_)
  refine lv_iload_n hx hb dJ7_copyOfRangeByte_39247_5 rfl (lv_at hl 2 rfl) ?_
  refine lv_iload_n hx hb dJ7_copyOfRangeByte_39247_6 rfl (lv_at hl 1 rfl) ?_
  refine lv_isub hx hb dJ7_copyOfRangeByte_39247_7 ?_
  rw [show ((8 - 0) : Int32) = 8 from by decide]
  refine lv_istore_n (lv' := [(3, .int (8 : Int32)), (0, .ref q0), (1, .int 0), (2, .int 8)]) hx hb dJ7_copyOfRangeByte_39247_8 rfl hl (by decide) rfl (fun ls hl => ?_)
  refine lv_iload_n hx hb dJ7_copyOfRangeByte_39247_9 rfl (lv_at hl 0 rfl) ?_
  refine rc_newaR hx hb (hts _ tw_2_81) hK (by decide) (show (8 : Int32).toNatClampNeg = 8 by decide) (by decide) (Nat.le_of_ble_eq_true rfl) (Nat.le_of_ble_eq_true rfl) dJ7_copyOfRangeByte_39247_10 (fun H1 hat z1 o1 => ?_)
  have hsz : s.heap.size ≤ H.size := hS.1
  have hYz : Y.1 ≤ H.size := Nat.le_trans hE.1 hS.1
  have h0z : sh H.size = 0 := Classical.byContradiction (fun h => Nat.lt_irrefl _ (hW.lt h))
  have hlt : ∀ q, sh q ≠ 0 → q < H.size := fun q h => hW.lt h
  have hS1 : va_S (rc_A sh s.heap.size) s.heap H1 locs := ⟨by rw [z1]; exact Nat.le_succ_of_le hS.1, fun q g1 g2 => (o1 q (Nat.lt_of_lt_of_le g1 hS.1)).trans (hS.2.1 q g1 g2), hS.2.2⟩
  generalize H.size = z at hat z1 o1 hsz hYz h0z hlt ⊢
  have hqz : q0 ≠ z := fun e => by rw [e, h0z] at hq0; cases hq0
  obtain ⟨σz, hσz⟩ : ∃ σz : rc_S, σz = rc_row σ z (fun _ => 0) := ⟨_, rfl⟩
  have hW1 : rc_W Y (rc_xs sh z 35) rf σz H1 := rc_xsW (σ1 := σz) hW h0z (fun q h => o1 q (hlt q h)) (by rw [hσz]; unfold rc_row; rw [if_pos rfl]; exact hat) (fun q h => by rw [hσz]; exact if_neg h) (fun _ _ => rfl)
  have hT0 := hT
  have hT := rc_xsT hT h0z hYz (t := 35) (by decide)
  have hW := hW1
  have hS : va_S (rc_A (rc_xs sh z 35) s.heap.size) s.heap H1 locs := by rw [rc_xsA hsz]; exact hS1
  have hq0 := rc_xk (a := z) (t := 35) h0z hq0 (by decide)
  have hzz : rc_xs sh z 35 z = 35 := rc_xs_e
  refine lv_astore (lv' := [(4, .ref z), (3, .int (8 : Int32)), (0, .ref q0), (1, .int 0), (2, .int 8)]) hx hb dJ7_copyOfRangeByte_39247_12 hl (by decide) rfl (fun ls hl => ?_)
  refine lv_aload_n hx hb dJ7_copyOfRangeByte_39247_14 rfl (lv_at hl 2 rfl) ?_
  refine lv_iload_n hx hb dJ7_copyOfRangeByte_39247_15 rfl (lv_at hl 3 rfl) ?_
  refine lv_aload hx hb dJ7_copyOfRangeByte_39247_16 (lv_at hl 0 rfl) ?_
  refine lv_iconst (v := 0) hx hb dJ7_copyOfRangeByte_39247_18 (by decide) ?_
  refine lv_aload_n hx hb dJ7_copyOfRangeByte_39247_19 rfl (lv_at hl 2 rfl) ?_
  refine rc_alen (v := 16) hx hb hK hW hq0 (by decide) rfl 3 rfl rfl dJ7_copyOfRangeByte_39247_20 ?_
  refine lv_iload_n hx hb dJ7_copyOfRangeByte_39247_21 rfl (lv_at hl 3 rfl) ?_
  refine lv_isub hx hb dJ7_copyOfRangeByte_39247_22 ?_
  rw [show (((16 : Int32) - 0) : Int32) = 16 from by decide]
  refine lv_iload_n hx hb dJ7_copyOfRangeByte_39247_23 rfl (lv_at hl 1 rfl) ?_
  refine va_mmin hx hb (hml.trans hl.1.symm) hown (hts _ tw_4_176) (hts _ tw_3_31) (hts _ tw_1_22) (hts _ tw_3_32) (Nat.le_of_ble_eq_true rfl) (Nat.le_of_ble_eq_true rfl) (Nat.le_of_ble_eq_true rfl) (Nat.le_of_ble_eq_true rfl) dJ7_copyOfRangeByte_39247_24 ?_
  rw [show ((if (8 : Int32) < (16 : Int32) then (8 : Int32) else (16 : Int32)) : Int32) = 8 from by decide]
  have hq : rc_cpk (σz q0) (0 : Int32) (0 : Int32) (8 : Int32) 16 8 = true := by
    rw [hσz]; unfold rc_row; rw [if_neg hqz]; exact hfit
  refine rc_copyw hx hb (hml.trans hl.1.symm) hown (hts _ tw_4_177) (hts _ tw_4_179) (hts _ tw_4_178) (hts _ tw_1_24) hK hW hS hq0 (by decide) (fun _ => rfl) hzz (by decide) (fun _ => rfl) hq (Nat.le_of_ble_eq_true rfl) (Nat.le_of_ble_eq_true rfl) dJ7_copyOfRangeByte_39247_27 (fun σ2 H locs eσ hW hS => ?_)
  refine lv_aload hx hb dJ7_copyOfRangeByte_39247_30 (lv_at hl 0 rfl) ?_
  rw [rc_xsA hsz] at hS
  refine rc_rret (B := rc_pB Y sh rf σ 35 (rc_gc (σ q0) 8) s.heap.size) hx hb hr (Or.inr ⟨_, rfl⟩) hlocks ⟨hsz, ?_⟩ hS (Nat.le_of_ble_eq_true rfl) (Nat.le_of_ble_eq_true rfl) dJ7_copyOfRangeByte_39247_32
  have ee : σ2 = rc_row σ z (rc_gc (σ q0) 8) := by
    rw [eσ, hσz]
    funext b
    unfold rc_row rc_gc
    by_cases h : b = z
    · rw [if_pos h, if_pos h, if_pos rfl, if_neg hqz]
    · rw [if_neg h, if_neg h, if_neg h]
  rw [← ee]
  exact hW
set_option maxHeartbeats 4000000 in
set_option maxRecDepth 100000 in
theorem kn_J7_copyOfRange_39247_15 (l : Launch) {Y : rc_Y} {sh : Nat → Nat} {rf : rc_F} (hT : rc_T Y sh rf) (q0 : Nat) (hq0 : sh q0 = 24) (sz : Nat) (σ : rc_S) (hfit : rc_cpk (σ q0) (0 : Int32) (0 : Int32) (8 : Int32) 16 8 = true) : Met l yJ7_copyOfRange_39247 (Cond.code yJ7_copyOfRange_39247 cJ7_copyOfRange_39247 3 (some (.array .byte)) :: rc_big) ({ frames := 2, cells := 1, slots := 8, locals := 64 } : Room) (rc_P Y sh rf σ sz [.ref q0, .int 0, .int 8]) (va_Qr (fun (_ : Unit) => True) (fun _ a t => rc_pB Y sh rf σ 35 (rc_gc (σ q0) 8) sz a t.heap) (rc_A sh sz)) 1 8 (rc_A sh sz) := by
  refine rc_ofWF (cc := cJ7_copyOfRange_39247) (maxL := 3) (ret := (some (.array .byte))) (by decide +kernel) rfl ?_
  intro p e s m args below meth c s₁ B hml hv
  obtain ⟨rfl, hsz, hW, hK, hE⟩ := hv
  have hx := B.exec
  have hb := B.bytes
  have hr := B.returns
  have hts : ∀ w ∈ rc_big, w.before _ s = true := fun w h => atoms_spec (ws := Cond.code yJ7_copyOfRange_39247 cJ7_copyOfRange_39247 3 (some (.array .byte)) :: rc_big) B.pre w (List.mem_cons_of_mem _ h)
  have hown : s.vm.findClass RJ7 = some m.cls := findClass_of_methodNamed B.named
  have hlocks := B.notSynchronized
  clear B
  subst hsz
  have hl := lv_entry ([.ref q0, .int 0, .int 8]) (n := 3) (Nat.le_of_ble_eq_true rfl)
  rw [lg_entry_eq]
  generalize (lg_sl ([.ref q0, .int 0, .int 8]) ++ List.replicate (3 - (lg_sl ([.ref q0, .int 0, .int 8])).length) Slot.unset).toArray = ls at hl ⊢
  have hl : lv_has ls 3 [(0, .ref q0), (1, .int 0), (2, .int 8)] := hl
  have hS : va_S (rc_A sh s.heap.size) s.heap s.heap [] := va_S.rf
  refine lv_iload_n hx hb dJ7_copyOfRange_39247_0 rfl (lv_at hl 1 rfl) ?_
  refine lv_if_ne (tgt := 10) hx hb dJ7_copyOfRange_39247_1 (by decide) (fun c9 => absurd c9 (by decide)) (fun _ => ?_)
  refine lv_iload_n hx hb dJ7_copyOfRange_39247_4 rfl (lv_at hl 2 rfl) ?_
  refine lv_aload_n hx hb dJ7_copyOfRange_39247_5 rfl (lv_at hl 0 rfl) ?_
  refine rc_alen (v := 16) hx hb hK hW hq0 (by decide) rfl 3 rfl rfl dJ7_copyOfRange_39247_6 ?_
  refine lv_icmp_eq (tgt := 17) hx hb dJ7_copyOfRange_39247_7 (by decide) (fun c9 => absurd c9 (by decide)) (fun _ => ?_)
  refine lv_aload_n hx hb dJ7_copyOfRange_39247_10 rfl (lv_at hl 0 rfl) ?_
  refine lv_iload_n hx hb dJ7_copyOfRange_39247_11 rfl (lv_at hl 1 rfl) ?_
  refine lv_iload_n hx hb dJ7_copyOfRange_39247_12 rfl (lv_at hl 2 rfl) ?_
  refine rc_rcall (B := rc_pB Y sh rf σ 35 (rc_gc (σ q0) 8) s.heap.size) hS rc_Ain (fun q h => Or.inr h) (rc_Afr hS) (va_runS (As := [.ref q0, .int 0, .int 8]) (rest := []) ⟨hx, hb, hml, hown, hts⟩ (kn_J7_copyOfRangeByte_39247_15 l hT q0 hq0 s.heap.size σ hfit) (va_cwS 3 hts (rc_gS tw_5_70 tw_5_71 tw_1_23 tw_5_72) rfl rfl rfl (by decide +kernel) ⟨Nat.le_of_ble_eq_true rfl, Nat.le_of_ble_eq_true rfl⟩) (rc_preS hT hW hK hE hS [.ref q0, .int 0, .int 8]) rfl rfl hl.1 rfl (lv_room (Nat.le_of_ble_eq_true rfl)) dJ7_copyOfRange_39247_13 ⟨Nat.le_of_ble_eq_true rfl, Nat.le_of_ble_eq_true rfl⟩) (fun v H locs hB _ _ hS => ?_)
  exact rc_rret (B := rc_pB Y sh rf σ 35 (rc_gc (σ q0) 8) s.heap.size) hx hb hr (Or.inr ⟨_, rfl⟩) hlocks hB hS (Nat.le_of_ble_eq_true rfl) (Nat.le_of_ble_eq_true rfl) dJ7_copyOfRange_39247_16
set_option maxHeartbeats 4000000 in
set_option maxRecDepth 100000 in
theorem kn_J0_init_db425_15 (l : Launch) {Y : rc_Y} {sh : Nat → Nat} {rf : rc_F} (hT : rc_T Y sh rf) (x sb : Nat) (hx0 : sh x = 0) (hYx : Y.1 ≤ x) (hsb : sh sb = 11) (sz : Nat) (σ : rc_S) (hs1 : σ sb 1 = 0) (hs3 : σ sb 3 = 8) (hfit : rc_cpk (σ (rf sb 0)) (0 : Int32) (0 : Int32) (8 : Int32) 16 8 = true) : Met l yJ0_init_db425 (Cond.code yJ0_init_db425 cJ0_init_db425 5 none :: rc_big) ({ frames := 3, cells := 1, slots := 8, locals := 95 } : Room) (rc_Px Y sh rf σ sz x 0 [.null, .int 0, .int 0, .int 0] [.ref x, .ref sb, .null]) (va_Qv (fun (_ : Unit) => True) (fun _ t => rc_pS Y sh rf σ 15 (rc_gc (σ (rf sb 0)) 8) sz x t.heap) (rc_A (rc_xs sh x 15) sz)) 1 8 (rc_A (rc_xs sh x 15) sz) := by
  refine rc_ofWF (cc := cJ0_init_db425) (maxL := 5) (ret := none) (by decide +kernel) rfl ?_
  intro p e s m args below meth c s₁ B hml hv
  obtain ⟨rfl, hsz, ⟨hW, hK, hE⟩, hX⟩ := hv
  have hx := B.exec
  have hb := B.bytes
  have hr := B.returns
  have hts : ∀ w ∈ rc_big, w.before _ s = true := fun w h => atoms_spec (ws := Cond.code yJ0_init_db425 cJ0_init_db425 5 none :: rc_big) B.pre w (List.mem_cons_of_mem _ h)
  have hown : s.vm.findClass RJ0 = some m.cls := findClass_of_methodNamed B.named
  have hin : meth.name = "<init>" := (name_of_methodNamed B.named B.method).1
  have hlocks := B.notSynchronized
  clear B
  subst hsz
  have hl := lv_entry ([.ref x, .ref sb, .null]) (n := 5) (Nat.le_of_ble_eq_true rfl)
  rw [lg_entry_eq]
  generalize (lg_sl ([.ref x, .ref sb, .null]) ++ List.replicate (5 - (lg_sl ([.ref x, .ref sb, .null])).length) Slot.unset).toArray = ls at hl ⊢
  have hl : lv_has ls 5 [(0, .ref x), (1, .ref sb), (2, .null)] := hl
  have hS : va_S (rc_A (rc_xs sh x 15) s.heap.size) s.heap s.heap [] := va_S.rf
  have hxl : x < s.heap.size := hX.lt
  have hAB : ∀ q, rc_A (rc_xs sh x 15) s.heap.size q → Y.1 ≤ q := fun q h => by
    rcases h with h | h
    · by_cases e : q = x
      · rw [e]; exact hYx
      · rw [rc_xs_n e] at h; exact rc_t_b hT h
    · exact Nat.le_trans hE.1 h
  have hAs : ∀ n, s.heap.size ≤ n → ∀ q, rc_A sh n q → rc_A (rc_xs sh x 15) s.heap.size q := fun n hn q h => by
    rcases h with h | h
    · left
      by_cases e : q = x
      · rw [e, rc_xs_e]; decide
      · rw [rc_xs_n e]; exact h
    · exact Or.inr (Nat.le_trans hn h)
  have hB := rc_mono hS hAB
  refine lv_aload_n hx hb dJ0_init_db425_0 rfl (lv_at hl 0 rfl) ?_
  refine W.objInit hx hb hown (hts _ tw_5_52) (hts _ tw_1_40) (hts _ tw_1_41) rfl (by rw [hml]; exact hl.1) rfl dJ0_init_db425_1 (Nat.le_of_ble_eq_true rfl) (Nat.le_of_ble_eq_true rfl) ?_
  refine W.eq (g2 := F0 m 4 ls []) rfl ?_
  refine lv_aload_n hx hb dJ0_init_db425_4 rfl (lv_at hl 1 rfl) ?_
  have hc : f_J5_getValue_6d5f1 rf sb σ = some (rf sb 0, σ) := rfl
  refine rc_gr hS (hAs _ hS.1) (va_runU (As := []) (rest := []) ⟨hx, hb, hml, hown, hts⟩ (k_J5_getValue_6d5f1 l hT sb hsb s.heap.size _ _ _ hc) (va_cwU (owner := "java/lang/AbstractStringBuilder") 0 hts (rc_gU tw_5_53 tw_5_55 tw_5_56 tw_5_54 tw_1_10 tw_5_57) rfl rfl rfl rfl (by decide +kernel) ⟨Nat.le_of_ble_eq_true rfl, Nat.le_of_ble_eq_true rfl⟩) (rc_preVB hW hK hE hB hsb (by decide) rfl (q := (RJ4, TJ4, 4)) rfl []) rfl rfl hl.1 rfl (lv_room (Nat.le_of_ble_eq_true rfl)) dJ0_init_db425_5 ⟨Nat.le_of_ble_eq_true rfl, Nat.le_of_ble_eq_true rfl⟩) (fun H locs hW1 _ hq1 hS => ?_)
  have hX := hX.kept (hq1 x hX.lt (fun h => h.elim (fun h => h hx0) (fun h => absurd hX.lt (Nat.not_lt.mpr h))))
  have hB := rc_mono hS hAB
  have hW := hW1
  refine lv_astore_n (lv' := [(3, .ref (rf sb 0)), (0, .ref x), (1, .ref sb), (2, .null)]) hx hb dJ0_init_db425_8 rfl hl (by decide) rfl (fun ls hl => ?_)
  refine lv_aload_n hx hb dJ0_init_db425_9 rfl (lv_at hl 2 rfl) ?_
  have hc : f_J4_length_8abf5 rf sb σ = some (8, σ) := by
    rw [f_J4_length_8abf5, f_J5_length_8abf5, pq_bd, hs3]
  refine rc_gi hS (hAs _ hS.1) (va_runU (As := []) (rest := []) ⟨hx, hb, hml, hown, hts⟩ (k_J4_length_8abf5 l hT sb hsb H.size _ _ _ hc) (va_cwO (owner := "java/lang/AbstractStringBuilder") 0 hts (rc_gO tw_5_58 tw_5_60 tw_5_59 tw_5_61 tw_5_62 tw_1_11 tw_5_63) rfl rfl rfl tw_5_65 (by decide +kernel) ⟨Nat.le_of_ble_eq_true rfl, Nat.le_of_ble_eq_true rfl⟩) (rc_preVB hW hK hE hB hsb (by decide) rfl (q := (RJ4, TJ4, 4)) rfl []) rfl rfl hl.1 rfl (lv_room (Nat.le_of_ble_eq_true rfl)) dJ0_init_db425_10 ⟨Nat.le_of_ble_eq_true rfl, Nat.le_of_ble_eq_true rfl⟩) (fun H locs hW1 _ hq1 hS => ?_)
  have hX := hX.kept (hq1 x hX.lt (fun h => h.elim (fun h => h hx0) (fun h => absurd hX.lt (Nat.not_lt.mpr h))))
  have hB := rc_mono hS hAB
  have hW := hW1
  refine lv_istore (lv' := [(4, .int 8), (3, .ref (rf sb 0)), (0, .ref x), (1, .ref sb), (2, .null)]) hx hb dJ0_init_db425_13 hl (by decide) rfl (fun ls hl => ?_)
  refine lv_aload_n hx hb dJ0_init_db425_15 rfl (lv_at hl 3 rfl) ?_
  have hc : f_J5_isLatin1_aae02 rf sb σ = some (1, σ) := by
    rw [f_J5_isLatin1_aae02, if_pos hs1]
  refine rc_gi hS (hAs _ hS.1) (va_runU (As := []) (rest := []) ⟨hx, hb, hml, hown, hts⟩ (k_J5_isLatin1_aae02 l hT sb hsb H.size _ _ _ hc) (va_cwU (owner := "java/lang/AbstractStringBuilder") 0 hts (rc_gU tw_5_66 tw_4_182 tw_4_183 tw_4_181 tw_1_10 tw_4_184) rfl rfl rfl rfl (by decide +kernel) ⟨Nat.le_of_ble_eq_true rfl, Nat.le_of_ble_eq_true rfl⟩) (rc_preVB hW hK hE hB hsb (by decide) rfl (q := (RJ4, TJ4, 4)) rfl []) rfl rfl hl.1 rfl (lv_room (Nat.le_of_ble_eq_true rfl)) dJ0_init_db425_16 ⟨Nat.le_of_ble_eq_true rfl, Nat.le_of_ble_eq_true rfl⟩) (fun H locs hW1 _ hq1 hS => ?_)
  have hX := hX.kept (hq1 x hX.lt (fun h => h.elim (fun h => h hx0) (fun h => absurd hX.lt (Nat.not_lt.mpr h))))
  have hB := rc_mono hS hAB
  have hW := hW1
  refine lv_if_eq (tgt := 41) hx hb dJ0_init_db425_19 (by decide) (fun c9 => absurd c9 (by decide)) (fun _ => ?_)
  refine lv_aload_n hx hb dJ0_init_db425_22 rfl (lv_at hl 2 rfl) ?_
  refine lv_iconst (v := 0) hx hb dJ0_init_db425_23 (by decide) ?_
  refine rc_putR (C := RJ0) (T := TJ0) (N := 4) (ci := 0) hx hb hts in_12 tyJ0 tyJ0_ok nmJ0 hown hK hX rfl 1 (by decide) (hts _ tw_5_101) (fun _ h => h) (Or.inr ⟨rfl, hin, rfl⟩) (ty := tyJ0 1) (by decide +kernel) rfl rfl (Nat.le_of_ble_eq_true rfl) dJ0_init_db425_24 (fun H1 locs1 hX1 z1 o1 hl1 => ?_)
  have hS1 : va_S (rc_A (rc_xs sh x 15) s.heap.size) s.heap H1 locs1 := rc_Sput hS z1 o1 hl1 (Or.inl (by rw [rc_xs_e]; decide))
  have hW1 : rc_W Y sh rf σ H1 := hW.kept (fun q h => o1 q (fun e => h (by rw [e]; exact hx0)))
  have hW := hW1
  have hX : va_at Y.2.1 vwCl (x, .inr (0, [.null, .int 0, .int 0, .int 0])) H1 := hX1
  have hS := hS1
  have hB := rc_mono hS hAB
  refine lv_aload_n hx hb dJ0_init_db425_27 rfl (lv_at hl 2 rfl) ?_
  refine lv_aload_n hx hb dJ0_init_db425_28 rfl (lv_at hl 1 rfl) ?_
  refine lv_iconst (v := 0) hx hb dJ0_init_db425_29 (by decide) ?_
  refine lv_iload hx hb dJ0_init_db425_30 (lv_at hl 0 rfl) ?_
  refine rc_rcall (B := rc_pB Y sh rf σ 35 (rc_gc (σ (rf sb 0)) 8) H1.size) hS (fun q _ h => hAs _ hS.1 q h) (fun q h => Or.inr (Nat.le_trans hS.1 h)) (hAs _ hS.1) (va_runS (As := [.ref (rf sb 0), .int 0, .int 8]) (rest := [.ref x]) ⟨hx, hb, hml, hown, hts⟩ (kn_J7_copyOfRange_39247_15 l hT (rf sb 0) (rc_t_11_0 hT hsb) H1.size σ hfit) (va_cwS 3 hts (rc_gS tw_5_67 tw_5_68 tw_1_23 tw_5_69) rfl rfl rfl (by decide +kernel) ⟨Nat.le_of_ble_eq_true rfl, Nat.le_of_ble_eq_true rfl⟩) (rc_preSB hW hK hE hB [.ref (rf sb 0), .int 0, .int 8]) rfl rfl hl.1 rfl (lv_room (Nat.le_of_ble_eq_true rfl)) dJ0_init_db425_32 ⟨Nat.le_of_ble_eq_true rfl, Nat.le_of_ble_eq_true rfl⟩) (fun a H locs hBa _ hq1 hS => ?_)
  obtain ⟨hla, hWa⟩ := hBa
  have hxa : x < a := Nat.lt_of_lt_of_le hX.lt hla
  have hax : a ≠ x := fun e => Nat.lt_irrefl _ (e ▸ hxa)
  have hsa : s.heap.size ≤ a := Nat.le_trans hS1.1 hla
  have hX := hX.kept (hq1 x hX.lt (fun h => h.elim (fun h => h hx0) (fun h => absurd hX.lt (Nat.not_lt.mpr h))))
  refine rc_putR (C := RJ0) (T := TJ0) (N := 4) (ci := 0) hx hb hts in_12 tyJ0 tyJ0_ok nmJ0 hown hK hX rfl 0 (by decide) (hts _ tw_5_100) (fun _ h => h) (Or.inr ⟨rfl, hin, rfl⟩) (ty := tyJ0 0) (by decide +kernel) rfl rfl (Nat.le_of_ble_eq_true rfl) dJ0_init_db425_35 (fun H1 locs1 hX1 z1 o1 hl1 => ?_)
  have hS1 : va_S (rc_A (rc_xs sh x 15) s.heap.size) s.heap H1 locs1 := rc_Sput hS z1 o1 hl1 (Or.inl (by rw [rc_xs_e]; decide))
  have hX : va_at Y.2.1 vwCl (x, .inr (0, [.ref a, .int 0, .int 0, .int 0])) H1 := hX1
  have hWa1 : rc_W Y (rc_xs sh a 35) rf (rc_row σ a (rc_gc (σ (rf sb 0)) 8)) H1 := hWa.kept (fun q h => o1 q (fun e => h (by rw [e, rc_xs_n (Ne.symm hax)]; exact hx0)))
  have hS := hS1
  have hB := rc_mono hS hAB
  refine lv_goto (tgt := 97) hx hb dJ0_init_db425_38 (by decide) ?_
  refine rc_vretB (B := rc_pS Y sh rf σ 15 (rc_gc (σ (rf sb 0)) 8) s.heap.size x) hx hb hr hlocks ⟨a, hsa, hax, ?_⟩ hS (Nat.le_of_ble_eq_true rfl) (Nat.le_of_ble_eq_true rfl) dJ0_init_db425_97
  refine rc_xsW (σ1 := rc_row (rc_row σ a (rc_gc (σ (rf sb 0)) 8)) x (fun _ => 0)) (rf1 := rc_xr rf x a) hWa1 (by rw [rc_xs_n (Ne.symm hax)]; exact hx0) (fun _ _ => rfl) ?_ (fun q h => if_neg h) (fun q h => rc_xr_n h)
  unfold rc_row
  rw [if_pos rfl, show rc_xr rf x a x = fun _ => a from funext fun _ => if_pos rfl]
  exact hX
set_option maxHeartbeats 4000000 in
set_option maxRecDepth 100000 in
theorem kn_J0_init_81219_15 (l : Launch) {Y : rc_Y} {sh : Nat → Nat} {rf : rc_F} (hT : rc_T Y sh rf) (x sb : Nat) (hx0 : sh x = 0) (hYx : Y.1 ≤ x) (hsb : sh sb = 11) (sz : Nat) (σ : rc_S) (hs1 : σ sb 1 = 0) (hs3 : σ sb 3 = 8) (hfit : rc_cpk (σ (rf sb 0)) (0 : Int32) (0 : Int32) (8 : Int32) 16 8 = true) : Met l yJ0_init_81219 (Cond.code yJ0_init_81219 cJ0_init_81219 2 none :: rc_big) ({ frames := 4, cells := 1, slots := 8, locals := 119 } : Room) (rc_Px Y sh rf σ sz x 0 [.null, .int 0, .int 0, .int 0] [.ref x, .ref sb]) (va_Qv (fun (_ : Unit) => True) (fun _ t => rc_pS Y sh rf σ 15 (rc_gc (σ (rf sb 0)) 8) sz x t.heap) (rc_A (rc_xs sh x 15) sz)) 1 8 (rc_A (rc_xs sh x 15) sz) := by
  refine rc_ofWF (cc := cJ0_init_81219) (maxL := 2) (ret := none) (by decide +kernel) rfl ?_
  intro p e s m args below meth c s₁ B hml hv
  obtain ⟨rfl, hsz, ⟨hW, hK, hE⟩, hX⟩ := hv
  have hx := B.exec
  have hb := B.bytes
  have hr := B.returns
  have hts : ∀ w ∈ rc_big, w.before _ s = true := fun w h => atoms_spec (ws := Cond.code yJ0_init_81219 cJ0_init_81219 2 none :: rc_big) B.pre w (List.mem_cons_of_mem _ h)
  have hown : s.vm.findClass RJ0 = some m.cls := findClass_of_methodNamed B.named
  have hlocks := B.notSynchronized
  clear B
  subst hsz
  have hl := lv_entry ([.ref x, .ref sb]) (n := 2) (Nat.le_of_ble_eq_true rfl)
  rw [lg_entry_eq]
  generalize (lg_sl ([.ref x, .ref sb]) ++ List.replicate (2 - (lg_sl ([.ref x, .ref sb])).length) Slot.unset).toArray = ls at hl ⊢
  have hl : lv_has ls 2 [(0, .ref x), (1, .ref sb)] := hl
  have hS : va_S (rc_A (rc_xs sh x 15) s.heap.size) s.heap s.heap [] := va_S.rf
  have hB : va_S (fun q => Y.1 ≤ q) s.heap s.heap [] := va_S.rf
  refine lv_aload_n hx hb dJ0_init_81219_0 rfl (lv_at hl 0 rfl) ?_
  refine lv_aload_n hx hb dJ0_init_81219_1 rfl (lv_at hl 1 rfl) ?_
  refine lv_null hx hb dJ0_init_81219_2 ?_
  refine rc_gv (B := rc_pS Y sh rf σ 15 (rc_gc (σ (rf sb 0)) 8) s.heap.size x) hS (fun _ h => h) (va_runI (As := [.ref sb, .null]) (rest := []) ⟨hx, hb, hml, hown, hts⟩ (kn_J0_init_db425_15 l hT x sb hx0 hYx hsb s.heap.size σ hs1 hs3 hfit) (cwI 2 hts (rc_gI tw_5_51) rfl rfl rfl (hts _ tw_1_12) (hts _ tw_5_49) (hts _ tw_5_50) rfl (by decide +kernel) ⟨Nat.le_of_ble_eq_true rfl, Nat.le_of_ble_eq_true rfl⟩) (rc_prex hW hK hE hB hX [.ref x, .ref sb, .null]) rfl rfl hl.1 rfl (lv_room (Nat.le_of_ble_eq_true rfl)) dJ0_init_81219_3 ⟨Nat.le_of_ble_eq_true rfl, Nat.le_of_ble_eq_true rfl⟩) (fun H locs hBx _ _ hS => ?_)
  exact rc_vretB (B := rc_pS Y sh rf σ 15 (rc_gc (σ (rf sb 0)) 8) s.heap.size x) hx hb hr hlocks hBx hS (Nat.le_of_ble_eq_true rfl) (Nat.le_of_ble_eq_true rfl) dJ0_init_81219_6
set_option maxHeartbeats 4000000 in
set_option maxRecDepth 100000 in
theorem kn_J4_toString_0e30d_15 (l : Launch) {Y : rc_Y} {sh : Nat → Nat} {rf : rc_F} (hT : rc_T Y sh rf) (sb : Nat) (hsb : sh sb = 11) (sz : Nat) (σ : rc_S) (hs1 : σ sb 1 = 0) (hs3 : σ sb 3 = 8) (hfit : rc_cpk (σ (rf sb 0)) (0 : Int32) (0 : Int32) (8 : Int32) 16 8 = true) : Met l yJ4_toString_0e30d (Cond.code yJ4_toString_0e30d cJ4_toString_0e30d 1 (some (.object "java/lang/String")) :: rc_big) ({ frames := 5, cells := 2, slots := 12, locals := 149 } : Room) (rc_P Y sh rf σ sz [.ref sb]) (va_Qr (fun (_ : Unit) => True) (fun _ a t => rc_pT Y sh rf σ 15 (rc_gc (σ (rf sb 0)) 8) sz a t.heap) (rc_A sh sz)) 2 12 (rc_A sh sz) := by
  refine rc_ofWF (cc := cJ4_toString_0e30d) (maxL := 1) (ret := (some (.object "java/lang/String"))) (by decide +kernel) rfl ?_
  intro p e s m args below meth c s₁ B hml hv
  obtain ⟨rfl, hsz, hW, hK, hE⟩ := hv
  have hx := B.exec
  have hb := B.bytes
  have hr := B.returns
  have hts : ∀ w ∈ rc_big, w.before _ s = true := fun w h => atoms_spec (ws := Cond.code yJ4_toString_0e30d cJ4_toString_0e30d 1 (some (.object "java/lang/String")) :: rc_big) B.pre w (List.mem_cons_of_mem _ h)
  have hown : s.vm.findClass RJ4 = some m.cls := findClass_of_methodNamed B.named
  have hlocks := B.notSynchronized
  clear B
  subst hsz
  have hl := lv_entry ([.ref sb]) (n := 1) (Nat.le_of_ble_eq_true rfl)
  rw [lg_entry_eq]
  generalize (lg_sl ([.ref sb]) ++ List.replicate (1 - (lg_sl ([.ref sb])).length) Slot.unset).toArray = ls at hl ⊢
  have hl : lv_has ls 1 [(0, .ref sb)] := hl
  have hS : va_S (rc_A sh s.heap.size) s.heap s.heap [] := va_S.rf
  refine rc_newR (C := RJ0) (T := TJ0) (N := 4) (ci := 0) (fs := [.null, .int 0, .int 0, .int 0]) hx hb hts in_12 tyJ0 tyJ0_ok hown (hts _ tw_5_45) (hts _ tw_2_195) (hts _ tw_1_12) hK rfl (fun j hj => by
    rcases (show j = 0 ∨ j = 1 ∨ j = 2 ∨ j = 3 by omega) with rfl | rfl | rfl | rfl <;> rfl) (Nat.le_of_ble_eq_true rfl) (Nat.le_of_ble_eq_true rfl) dJ4_toString_0e30d_0 (fun H1 hX z1 o1 => ?_)
  have hx0 : sh s.heap.size = 0 := Classical.byContradiction (fun h => Nat.lt_irrefl _ (hW.lt h))
  have hW1 : rc_W Y sh rf σ H1 := hW.kept (fun q h => o1 q (hW.lt h))
  have hS1 : va_S (rc_A sh s.heap.size) s.heap H1 [] := ⟨by rw [z1]; exact Nat.le_succ _, fun q g1 _ => o1 q g1, hS.2.2⟩
  have hB := rc_SB hT hE hS1
  refine lv_dup hx hb dJ4_toString_0e30d_3 rfl ?_
  refine lv_aload_n hx hb dJ4_toString_0e30d_4 rfl (lv_at hl 0 rfl) ?_
  refine rc_gv (B := rc_pS Y sh rf σ 15 (rc_gc (σ (rf sb 0)) 8) H1.size s.heap.size) hS1 (fun q h => ?_) (va_runI (As := [.ref sb]) (rest := [.ref s.heap.size]) ⟨hx, hb, hml, hown, hts⟩ (kn_J0_init_81219_15 l hT s.heap.size sb hx0 hE.1 hsb H1.size σ hs1 hs3 hfit) (cwI 1 hts (rc_gI tw_5_48) rfl rfl rfl (hts _ tw_1_12) (hts _ tw_5_46) (hts _ tw_5_47) rfl (by decide +kernel) ⟨Nat.le_of_ble_eq_true rfl, Nat.le_of_ble_eq_true rfl⟩) (rc_prex hW1 hK hE hB hX [.ref s.heap.size, .ref sb]) rfl rfl hl.1 rfl (lv_room (Nat.le_of_ble_eq_true rfl)) dJ4_toString_0e30d_5 ⟨Nat.le_of_ble_eq_true rfl, Nat.le_of_ble_eq_true rfl⟩) (fun H locs hBx _ _ hS => ?_)
  · rcases h with h | h
    · by_cases e : q = s.heap.size
      · exact Or.inr (Nat.le_of_eq e.symm)
      · rw [rc_xs_n e] at h; exact Or.inl h
    · exact Or.inr (Nat.le_trans hS1.1 h)
  · refine rc_rret (B := rc_pT Y sh rf σ 15 (rc_gc (σ (rf sb 0)) 8) s.heap.size) hx hb hr (Or.inl ⟨_, rfl⟩) hlocks ?_ hS (Nat.le_of_ble_eq_true rfl) (Nat.le_of_ble_eq_true rfl) dJ4_toString_0e30d_8
    obtain ⟨a, ha, hax, hWx⟩ := hBx
    exact ⟨Nat.le_refl _, a, Nat.le_trans hS1.1 ha, hax, hWx⟩
