/-! THE START: what the Statement gives of it -/
section HST
variable {args : Array Value} {s : State}
theorem h_sl (y : MethodName) (hin : (Cond.instantiable "java/lang/StringBuilder" 4).before args s = true) (him : (Cond.instanceMethod y).before args s = true) (hpm : (Cond.privateMethod y).before args s = true) (hsm : (Cond.sameMethod y.cls y.cls y.name y.desc).before args s = true) (hn1 : y.cls ≠ "java/lang/invoke/MethodHandle" ∧ y.cls ≠ "java/lang/invoke/VarHandle") : (Cond.selects "java/lang/StringBuilder" y y).before args s = true := by
  obtain ⟨c, k, hc, hk, -⟩ := Cond.instantiable_spec hin
  obtain ⟨mk, methM, hnamed, hmethM, -, -⟩ := Cond.instanceMethod_spec him
  have hfound : s.methodFound? y.cls y.name y.desc = some mk := State.methodFound?_of_named hnamed hn1
  have hsel : selectMethod {} s.vm c mk = .method mk := selectMethod_private hmethM (Cond.privateMethod_at hpm mk methM hnamed hmethM)
  obtain ⟨c2, k2, hc2, hk2, hi2⟩ := Cond.sameMethod_class hsm
  have hcls : mk.cls = c2 := Option.some.inj ((findClass_of_methodNamed hnamed).symm.trans hc2)
  simp only [Cond.before, Cond.holds, Cond.value, hc, hfound, hnamed, hsel, hcls, hk2]
  simp; exact hi2
theorem h_sel_rc_eci (htl : ∀ w ∈ lw_tbl, w.before args s = true) : (Cond.selects "java/lang/StringBuilder" rc_eci rc_eci).before args s = true :=
  h_sl rc_eci (htl _ (rc_m2 50 (by decide +kernel))) (htl _ (rc_m4 151 (by decide +kernel))) (htl _ (rc_m4 150 (by decide +kernel))) (htl _ (rc_m7 101 (by decide +kernel))) ⟨by decide +kernel, by decide +kernel⟩
theorem h_sel_rc_ein (htl : ∀ w ∈ lw_tbl, w.before args s = true) : (Cond.selects "java/lang/StringBuilder" rc_ein rc_ein).before args s = true :=
  h_sl rc_ein (htl _ (rc_m2 50 (by decide +kernel))) (htl _ (rc_m4 226 (by decide +kernel))) (htl _ (rc_m4 225 (by decide +kernel))) (htl _ (rc_m7 104 (by decide +kernel))) ⟨by decide +kernel, by decide +kernel⟩
theorem h_sel_rc_eps (htl : ∀ w ∈ lw_tbl, w.before args s = true) : (Cond.selects "java/lang/StringBuilder" rc_eps rc_eps).before args s = true :=
  h_sl rc_eps (htl _ (rc_m2 50 (by decide +kernel))) (htl _ (rc_m4 222 (by decide +kernel))) (htl _ (rc_m4 221 (by decide +kernel))) (htl _ (rc_m7 103 (by decide +kernel))) ⟨by decide +kernel, by decide +kernel⟩
theorem h_big (htl : ∀ w ∈ lw_tbl, w.before args s = true) : ∀ w ∈ rc_big, w.before args s = true := fun w hw => by
  rcases List.mem_cons.mp hw with h | h
  · subst h; exact h_sel_rc_eci htl
  · rcases List.mem_cons.mp h with h | h
    · subst h; exact h_sel_rc_ein htl
    · rcases List.mem_cons.mp h with h | h
      · subst h; exact h_sel_rc_eps htl
      · exact htl w (List.mem_filter.mp h).1
theorem h_nw (htl : ∀ w ∈ lw_tbl, w.before args s = true) : ∀ w ∈ rc_nw, va_Nw w s := fun w hw => by
  obtain ⟨h1, h2⟩ := List.mem_filter.mp hw
  have h3 := htl w (List.mem_append_right _ h1)
  cases w with
  | declares x => exact va_tabs rfl rfl h3
  | castable C T => exact va_tabs rfl rfl h3
  | methodLinkNest a i x b => exact va_tabs rfl rfl h3
  | _ => cases h2
theorem h_nm (i : Nat) {w : Cond} (h : (flatC narrow_1)[i]? = some w) (hn : ∀ c ∈ flatC narrow_1, c.before args s = true) : w.before args s = true := hn w (List.mem_of_getElem? h)
theorem h_N (hn : ∀ c ∈ flatC narrow_1, c.before args s = true) : rc_N s :=
  ⟨va_Nc.of (h_nm 225 (by decide +kernel) hn), va_Nc.of (h_nm 227 (by decide +kernel) hn), va_Nc.of (h_nm 264 (by decide +kernel) hn), va_Nc.of (h_nm 241 (by decide +kernel) hn), va_Nc.of (h_nm 263 (by decide +kernel) hn)⟩
theorem h_arr {ty : FieldType} (h : (Cond.arrayClass ty).before args s = true) : ∃ cA, ArrOfT s cA ty ∧ s.vm.findClass ("[" ++ ty.toString) = some cA := by
  obtain ⟨c, k, comp, h1, h2, h3⟩ := Cond.arrayClass_spec h
  exact ⟨c, fun n z => ⟨fun q hq => (by cases hq), k, h2, comp, h3⟩, h1⟩
theorem h_arrO {C : String} (h : (Cond.arrayOver (.object C)).before args s = true) : ∃ cA, ArrOfT s cA (.object C) ∧ va_RA s cA (.object C) := by
  obtain ⟨comp, c, k, h1, h2, h3, h4, h5⟩ := Cond.arrayOver_spec h
  exact ⟨c, fun n z => ⟨fun q hq => (by cases hq), k, h3, comp, h4⟩, k, comp, h3, h4, h1, h5⟩
theorem h_AO (htl : ∀ w ∈ lw_tbl, w.before args s = true) : rl_AO s :=
  ⟨va_AO.of (htl (Cond.arrayOver (.object "RainCellar$Barrel")) (rc_m1 55 (by decide +kernel))), va_AO.of (htl (Cond.arrayOver (.object "RainCellar$Cellar")) (rc_m2 4 (by decide +kernel))), va_AO.of (htl (Cond.arrayOver (.object "RainCellar$Rainfall")) (rc_m1 79 (by decide +kernel)))⟩
theorem in_s0 : ∀ w ∈ u_ws RJ0 TJ0 4, w ∈ lw_tbl := rc_ps [452, 454, 1078, 1080] (by decide +kernel)
theorem in_s2 : ∀ w ∈ u_ws RJx00060 TJx00060 6, w ∈ lw_tbl := rc_ps [419, 421, 423, 425, 427, 429] (by decide +kernel)
theorem in_s3 : ∀ w ∈ u_ws RJx7c733 TJx7c733 6, w ∈ lw_tbl := rc_ps [1292, 1293, 1294, 1295, 1296, 1297] (by decide +kernel)
theorem h_Kn (htl : ∀ w ∈ lw_tbl, w.before args s = true) : ∀ q ∈ vwCl, ∃ (cC : ClassId) (iS : Nat → Nat), u_Kn s q.1 q.2.1 q.2.2 cC iS :=
  List.forall_mem_cons.mpr ⟨u_known (n := 4) htl in_s0 (htl _ (rc_m2 195 (by decide +kernel))),
  List.forall_mem_cons.mpr ⟨u_known (n := 4) (h_big htl) in_11 (htl _ (rc_m2 50 (by decide +kernel))),
  List.forall_mem_cons.mpr ⟨u_known (n := 6) htl in_s2 (htl _ (rc_m2 121 (by decide +kernel))),
  List.forall_mem_cons.mpr ⟨u_known (n := 6) htl in_s3 (htl _ (rc_m6 65 (by decide +kernel))),
  List.forall_mem_cons.mpr ⟨u_known (n := 6) (h_big htl) in_1 (htl _ (rc_m1 80 (by decide +kernel))),
  List.forall_mem_cons.mpr ⟨u_known (n := 14) (h_big htl) in_2 (htl _ (rc_m1 49 (by decide +kernel))),
  List.forall_mem_cons.mpr ⟨u_known (n := 3) (h_big htl) in_3 (htl _ (rc_m1 238 (by decide +kernel))),
  List.forall_mem_cons.mpr ⟨u_known (n := 3) (h_big htl) in_4 (htl _ (rc_m1 57 (by decide +kernel))),
  List.forall_mem_cons.mpr ⟨u_known (n := 3) (h_big htl) in_5 (htl _ (rc_m1 119 (by decide +kernel))),
  List.forall_mem_cons.mpr ⟨u_known (n := 3) (h_big htl) in_6 (htl _ (rc_m1 210 (by decide +kernel))),
  List.forall_mem_cons.mpr ⟨u_known (n := 7) (h_big htl) in_7 (htl _ (rc_m2 18 (by decide +kernel))),
  List.forall_mem_cons.mpr ⟨u_known (n := 2) (h_big htl) in_8 (htl _ (rc_m1 43 (by decide +kernel))),
  List.forall_mem_cons.mpr ⟨u_known (n := 9) (h_big htl) in_9 (htl _ (rc_m1 35 (by decide +kernel))), fun _ h => absurd h List.not_mem_nil⟩⟩⟩⟩⟩⟩⟩⟩⟩⟩⟩⟩⟩
theorem h_K (htl : ∀ w ∈ lw_tbl, w.before args s = true) : ∃ (D : va_G) (cy : Nat → ClassId), va_K D vwCl (rc_tys cy) s := by
  have h0 := h_Kn htl
  obtain ⟨a0, a1, a2⟩ := h_arr (ty := .int) (htl _ (rc_m1 76 (by decide +kernel)))
  obtain ⟨b0, b1, b2⟩ := h_arr (ty := .char) (htl _ (rc_m2 48 (by decide +kernel)))
  obtain ⟨c0, c1, c2⟩ := h_arr (ty := .boolean) (htl _ (rc_m1 77 (by decide +kernel)))
  obtain ⟨d0, d1, d2⟩ := h_arr (ty := .byte) (htl _ (rc_m2 81 (by decide +kernel)))
  obtain ⟨e0, e1, e2⟩ := h_arrO (C := "RainCellar$Barrel") (htl _ (rc_m1 55 (by decide +kernel)))
  obtain ⟨f0, f1, f2⟩ := h_arrO (C := "RainCellar$Cellar") (htl _ (rc_m2 4 (by decide +kernel)))
  obtain ⟨g0, g1, g2⟩ := h_arrO (C := "RainCellar$Rainfall") (htl _ (rc_m1 79 (by decide +kernel)))
  have h1 : ∀ k : Nat, ∃ d : ClassId × (Nat → Nat), ∀ q, vwCl[k]? = some q → u_Kn s q.1 q.2.1 q.2.2 d.1 d.2 := fun k => by
    cases hk : vwCl[k]? with
    | none => exact ⟨(a0, fun _ => 0), fun q h => (by cases h)⟩
    | some q =>
      obtain ⟨cC, iS, h⟩ := h0 q (List.mem_of_getElem? hk)
      exact ⟨(cC, iS), fun q' h' => (by cases h'; exact h)⟩
  obtain ⟨f, hf⟩ := Classical.axiomOfChoice h1
  refine ⟨(fun k => (f k).1, fun k => (f k).2), fun i => match i with
    | 0 => a0
    | 1 => b0
    | 2 => c0
    | 3 => d0
    | 4 => e0
    | 5 => f0
    | _ => g0, fun c q hq => hf c q hq, fun k q hq => ?_⟩
  match k, hq with
  | 0, hq => cases hq; exact ⟨a1, a2⟩
  | 1, hq => cases hq; exact ⟨b1, b2⟩
  | 2, hq => cases hq; exact ⟨c1, c2⟩
  | 3, hq => cases hq; exact ⟨d1, d2⟩
  | 4, hq => cases hq; exact ⟨e1, e2⟩
  | 5, hq => cases hq; exact ⟨f1, f2⟩
  | 6, hq => cases hq; exact ⟨g1, g2⟩
  | k + 7, hq => cases hq
/-! the tables of digits, the texts -/
theorem h_d1 : ∀ j, j < 100 → (flatC narrow_1)[12 + j]? = some (Cond.eq (.elem (.static "java/lang/Integer" "DigitOnes" "[B") (.int (Int32.ofNat j))) (.int (rc_d1 j))) := by decide +kernel
theorem h_d10 : ∀ j, j < 100 → (flatC narrow_1)[115 + j]? = some (Cond.eq (.elem (.static "java/lang/Integer" "DigitTens" "[B") (.int (Int32.ofNat j))) (.int (rc_d10 j))) := by decide +kernel
def h_tm (i : Nat) : Term := .string (rc_own i) (rc_sk i)
def h_ps (i : Nat) : Nat := [486, 503, 523, 542, 559, 462, 378, 384, 390, 408, 417, 427, 438].getD i 0
def h_pr (i j : Nat) : Nat := ([[0, 522, 540, 556, 574, 502, 493, 494, 495, 497, 498, 499, 500], [522, 0, 541, 557, 575, 521, 512, 513, 514, 516, 517, 518, 519], [540, 541, 0, 558, 576, 539, 530, 531, 532, 534, 535, 536, 537], [556, 557, 558, 0, 577, 555, 546, 547, 548, 550, 551, 552, 553], [574, 575, 576, 577, 0, 573, 564, 565, 566, 568, 569, 570, 571], [502, 521, 539, 555, 573, 0, 477, 478, 479, 481, 482, 483, 484], [493, 512, 530, 546, 564, 477, 0, 389, 396, 413, 422, 432, 443], [494, 513, 531, 547, 565, 478, 389, 0, 397, 414, 423, 433, 444], [495, 514, 532, 548, 566, 479, 396, 397, 0, 415, 424, 434, 445], [497, 516, 534, 550, 568, 481, 413, 414, 415, 0, 426, 436, 447], [498, 517, 535, 551, 569, 482, 422, 423, 424, 426, 0, 437, 448], [499, 518, 536, 552, 570, 483, 432, 433, 434, 436, 437, 0, 449], [500, 519, 537, 553, 571, 484, 443, 444, 445, 447, 448, 449, 0]].getD i []).getD j 0
def h_sp (i : Nat) : Nat := [1208, 1209, 1210, 1211, 1212, 1158, 873, 990, 1016, 1083, 1084, 1085, 1086, 1087].getD i 0
theorem h_t0 : ∀ i, i < 13 → (flatC narrow_1)[h_ps i]? = some (Cond.exactly (h_tm i) "java/lang/String") ∧ (flatC narrow_1)[h_ps i + 1]? = some (Cond.eq (.field (h_tm i) "java/lang/String" "coder" "B") (.int 0)) ∧ (flatC narrow_1)[h_ps i + 2]? = some (Cond.arrayOf (.field (h_tm i) "java/lang/String" "value" "[B") .byte) ∧ (flatC narrow_1)[h_ps i + 3]? = some (Cond.eq (.length (.field (h_tm i) "java/lang/String" "value" "[B")) (.int (Int32.ofNat (rc_len.getD i 0)))) := by decide +kernel
theorem h_t1 : ∀ i, i < 13 → ∀ j, j < rc_len.getD i 0 → (flatC narrow_1)[h_ps i + 4 + j]? = some (Cond.eq (.elem (.field (h_tm i) "java/lang/String" "value" "[B") (.int (Int32.ofNat j))) (.int ((rc_byt.getD i []).getD j 0))) := by decide +kernel
theorem h_t2 : ∀ i, i < 13 → ∀ j, j < 13 → i ≠ j → (flatC narrow_1)[h_pr i j]? = some (Cond.not (Cond.eq (h_tm i) (h_tm j))) ∨ (flatC narrow_1)[h_pr i j]? = some (Cond.not (Cond.eq (h_tm j) (h_tm i))) := by decide +kernel
theorem h_t3 : ∀ i, i < 14 → lw_tbl[h_sp i]? = some (Cond.stringRef (rc_own i) (rc_sk i) (rc_tx i)) := by decide +kernel
theorem h_eqR {t u : Term} {a : Nat} (h : (Cond.eq t u).before args s = true) (hu : u.eval args s none [] s = some (.ref a)) : t.eval args s none [] s = some (.ref a) := by
  cases hv : t.eval args s none [] s with
  | none => simp [Cond.before, Cond.holds, Cond.value, hv] at h
  | some w =>
    simp only [Cond.before, Cond.holds, Cond.value, hv, hu] at h
    cases w <;> simp_all
theorem h_len : ∀ i, i < 13 → rc_len.getD i 0 < 2 ^ 31 := by decide
theorem h_E (htl : ∀ w ∈ lw_tbl, w.before args s = true) (hn : ∀ c ∈ flatC narrow_1, c.before args s = true) (D : va_G) (cy : Nat → ClassId) : ∃ tx : Nat → Nat, rc_E (s.heap.size, D, cy, tx) s s.heap := by
  have hA : ∀ a : Nat, a < s.heap.size → ¬ (fun q : Nat => s.heap.size ≤ q) a := fun a h => Nat.not_le.mpr h
  obtain ⟨t1, u1, v1⟩ := va_Tof (tm := .static "java/lang/Integer" "DigitOnes" "[B") (ty := .byte) (N := 100) (f := fun j => .int (rc_d1 j)) (A := fun q : Nat => s.heap.size ≤ q) (by decide) (h_nm 10 (by decide +kernel) hn) (va_eqt (h_nm 11 (by decide +kernel) hn)) (fun j hj => va_eqt (h_nm _ (h_d1 j hj) hn)) hA
  obtain ⟨t2, u2, v2⟩ := va_Tof (tm := .static "java/lang/Integer" "DigitTens" "[B") (ty := .byte) (N := 100) (f := fun j => .int (rc_d10 j)) (A := fun q : Nat => s.heap.size ≤ q) (by decide) (h_nm 113 (by decide +kernel) hn) (va_eqt (h_nm 114 (by decide +kernel) hn)) (fun j hj => va_eqt (h_nm _ (h_d10 j hj) hn)) hA
  obtain ⟨adK, adV, hs, hev⟩ := vk_Sof (N := 13) (tm := h_tm) (len := rc_len) (byt := rc_byt) (A := fun q : Nat => s.heap.size ≤ q) h_len (fun i hi => h_nm _ (h_t0 i hi).1 hn) (fun i hi => h_nm _ (h_t0 i hi).2.1 hn) (fun i hi => h_nm _ (h_t0 i hi).2.2.1 hn) (fun i hi => h_nm _ (h_t0 i hi).2.2.2 hn) (fun i hi j hj => h_nm _ (h_t1 i hi j hj) hn) (fun i j hi hj hij => by
    rcases h_t2 i hi j hj hij with h | h
    · exact Or.inl (h_nm _ h hn)
    · exact Or.inr (h_nm _ h hn)) hA
  refine ⟨fun i => if i < 100 then adK i else adV (i - 100), Nat.le_refl _, ?_, ?_, h_nw htl, ?_, ⟨t1, ?_, v1⟩, ⟨t2, ?_, v2⟩, ?_, ⟨fun i hi => ?_, fun i j hi hj e => ?_⟩, fun i hi => ?_⟩
  · exact vx_Zqof (htl (Cond.laysStatic "java/lang/Throwable" "UNASSIGNED_STACK" "[Ljava/lang/StackTraceElement;") (rc_m2 138 (by decide +kernel))) (htl (Cond.initialized "java/lang/Throwable") (rc_m1 14 (by decide +kernel))) (h_nm 3 (by decide +kernel) hn) hA
  · exact vx_Zqof (htl (Cond.laysStatic "java/lang/Throwable" "SUPPRESSED_SENTINEL" "Ljava/util/List;") (rc_m2 140 (by decide +kernel))) (htl (Cond.initialized "java/lang/Throwable") (rc_m1 14 (by decide +kernel))) (h_nm 4 (by decide +kernel) hn) hA
  · exact va_Zof (htl (Cond.laysStatic "java/lang/String" "COMPACT_STRINGS" "Z") (rc_m2 59 (by decide +kernel))) (htl (Cond.initialized "java/lang/String") (rc_m1 12 (by decide +kernel))) (va_eqi (h_nm 2 (by decide +kernel) hn)) hA
  · exact va_Zof (htl (Cond.laysStatic "java/lang/Integer" "DigitOnes" "[B") (rc_m5 29 (by decide +kernel))) (htl (Cond.initialized "java/lang/Integer") (rc_m1 28 (by decide +kernel))) u1 hA
  · exact va_Zof (htl (Cond.laysStatic "java/lang/Integer" "DigitTens" "[B") (rc_m5 31 (by decide +kernel))) (htl (Cond.initialized "java/lang/Integer") (rc_m1 28 (by decide +kernel))) u2 hA
  · exact va_Zqof (htl (Cond.laysStatic "jdk/internal/util/Preconditions" "SIOOBE_FORMATTER" "Ljava/util/function/BiFunction;") (rc_m4 198 (by decide +kernel))) (htl (Cond.initialized "jdk/internal/util/Preconditions") (rc_m1 25 (by decide +kernel))) (h_nm 5 (by decide +kernel) hn) hA
  · have h := hs.1 i hi
    have e1 : (if i < 100 then adK i else adV (i - 100)) = adK i := if_pos (by omega)
    have e2 : (if 100 + i < 100 then adK (100 + i) else adV (100 + i - 100)) = adV i := by rw [if_neg (by omega), Nat.add_sub_cancel_left]
    show va_O _ (if i < 100 then adK i else adV (i - 100)) _ _ _ ∧ va_OF _ _ _ _ (if i < 100 then adK i else adV (i - 100)) _ _ _ ∧ va_OF _ _ _ (.ref (if 100 + i < 100 then adK (100 + i) else adV (100 + i - 100))) (if i < 100 then adK i else adV (i - 100)) _ _ _ ∧ va_T _ (if 100 + i < 100 then adK (100 + i) else adV (100 + i - 100)) _ _ _ _ _
    rw [e1, e2]
    exact h
  · have e1 : (if i < 100 then adK i else adV (i - 100)) = adK i := if_pos (by omega)
    have e2 : (if j < 100 then adK j else adV (j - 100)) = adK j := if_pos (by omega)
    exact hs.2 i j hi hj (e1.symm.trans (e.trans e2))
  · by_cases h13 : i = 13
    · subst h13
      refine vk_R.of (htl _ (List.mem_of_getElem? (h_t3 13 (by omega)))) ?_
      exact h_eqR (h_nm 554 (show (flatC narrow_1)[554]? = some (Cond.eq (.string (rc_own 13) (rc_sk 13)) (h_tm 3)) by decide +kernel) hn) (hev 3 (by omega))
    · have e2 : rc_ti i = i := if_neg h13
      have e1 : (if i < 100 then adK i else adV (i - 100)) = adK i := if_pos (by omega)
      show vk_R _ _ _ (if rc_ti i < 100 then adK (rc_ti i) else adV (rc_ti i - 100)) _
      rw [e2, e1]
      exact vk_R.of (htl _ (List.mem_of_getElem? (h_t3 i hi))) (hev i (by omega))
end HST
