/-! THE START: what the Statement gives of it -/
section HST
variable {args : Array Value} {s : State}
theorem h_sel (htl : ∀ w ∈ lw_tbl, w.before args s = true) : (Cond.selects "java/lang/StringBuilder" rc_eci rc_eci).before args s = true := by
  obtain ⟨c, k, hc, hk, -⟩ := Cond.instantiable_spec (htl (Cond.instantiable "java/lang/StringBuilder" 4) (rc_m2 53 (by decide +kernel)))
  obtain ⟨mk, methM, hnamed, hmethM, -, -⟩ := Cond.instanceMethod_spec (htl (Cond.instanceMethod rc_eci) (rc_m2 207 (by decide +kernel)))
  have hfound : s.methodFound? rc_eci.cls rc_eci.name rc_eci.desc = some mk := State.methodFound?_of_named hnamed ⟨by decide +kernel, by decide +kernel⟩
  have hsel : selectMethod {} s.vm c mk = .method mk := selectMethod_private hmethM (Cond.privateMethod_at (htl (Cond.privateMethod rc_eci) (rc_m2 206 (by decide +kernel))) mk methM hnamed hmethM)
  obtain ⟨c2, k2, hc2, hk2, hi2⟩ := Cond.sameMethod_class (htl (Cond.sameMethod rc_eci.cls rc_eci.cls rc_eci.name rc_eci.desc) (rc_m8 234 (by decide +kernel)))
  have hcls : mk.cls = c2 := Option.some.inj ((findClass_of_methodNamed hnamed).symm.trans hc2)
  simp only [Cond.before, Cond.holds, Cond.value, hc, hfound, hnamed, hsel, hcls, hk2]
  simp; exact hi2
theorem h_big (htl : ∀ w ∈ lw_tbl, w.before args s = true) : ∀ w ∈ rc_big, w.before args s = true := fun w hw => by
  rcases List.mem_cons.mp hw with h | h
  · subst h; exact h_sel htl
  · exact htl w (List.mem_filter.mp h).1
theorem h_nw (htl : ∀ w ∈ lw_tbl, w.before args s = true) : ∀ w ∈ rc_nw, va_Nw w s := fun w hw => by
  obtain ⟨h1, h2⟩ := List.mem_filter.mp hw
  have h3 := htl w (List.mem_append_right _ h1)
  cases w with
  | declares x => exact va_tabs rfl rfl h3
  | castable C T => exact va_tabs rfl rfl h3
  | methodLinkNest a i x b => exact va_tabs rfl rfl h3
  | _ => cases h2
theorem h_nm (i : Nat) {w : Cond} (h : (flatC narrow_1)[i]? = some w) (hn : ∀ c ∈ flatC narrow_1, c.before args s = true) : w.before args s = true := hn w (List.mem_of_getElem? h)
theorem h_N (hn : ∀ c ∈ flatC narrow_1, c.before args s = true) : rc_N s :=
  ⟨va_Nc.of (h_nm 246 (by decide +kernel) hn), va_Nc.of (h_nm 247 (by decide +kernel) hn), va_Nc.of (h_nm 262 (by decide +kernel) hn), va_Nc.of (h_nm 284 (by decide +kernel) hn), va_Nc.of (h_nm 265 (by decide +kernel) hn)⟩
theorem h_arr {ty : FieldType} (h : (Cond.arrayClass ty).before args s = true) : ∃ cA, ArrOfT s cA ty ∧ s.vm.findClass ("[" ++ ty.toString) = some cA := by
  obtain ⟨c, k, comp, h1, h2, h3⟩ := Cond.arrayClass_spec h
  exact ⟨c, fun n z => ⟨fun q hq => (by cases hq), k, h2, comp, h3⟩, h1⟩
theorem h_arrO {C : String} (h : (Cond.arrayOver (.object C)).before args s = true) : ∃ cA, ArrOfT s cA (.object C) ∧ va_RA s cA (.object C) := by
  obtain ⟨comp, c, k, h1, h2, h3, h4, h5⟩ := Cond.arrayOver_spec h
  exact ⟨c, fun n z => ⟨fun q hq => (by cases hq), k, h3, comp, h4⟩, k, comp, h3, h4, h1, h5⟩
theorem h_AO (htl : ∀ w ∈ lw_tbl, w.before args s = true) : rl_AO s :=
  ⟨va_AO.of (htl (Cond.arrayOver (.object "RainCellar$Barrel")) (rc_m1 56 (by decide +kernel))), va_AO.of (htl (Cond.arrayOver (.object "RainCellar$Cellar")) (rc_m2 7 (by decide +kernel))), va_AO.of (htl (Cond.arrayOver (.object "RainCellar$Rainfall")) (rc_m1 80 (by decide +kernel)))⟩
theorem in_s0 : ∀ w ∈ u_ws RJ0 TJ0 4, w ∈ lw_tbl := rc_ps [762, 764, 766, 768] (by decide +kernel)
theorem in_s2 : ∀ w ∈ u_ws RJx00060 TJx00060 6, w ∈ lw_tbl := rc_ps [800, 801, 802, 803, 804, 815] (by decide +kernel)
theorem in_s3 : ∀ w ∈ u_ws RJx7c733 TJx7c733 6, w ∈ lw_tbl := rc_ps [775, 776, 777, 778, 779, 780] (by decide +kernel)
theorem h_Kn (htl : ∀ w ∈ lw_tbl, w.before args s = true) : ∀ q ∈ vwCl, ∃ (cC : ClassId) (iS : Nat → Nat), u_Kn s q.1 q.2.1 q.2.2 cC iS :=
  List.forall_mem_cons.mpr ⟨u_known (n := 4) htl in_s0 (htl _ (rc_m3 102 (by decide +kernel))),
  List.forall_mem_cons.mpr ⟨u_known (n := 4) (h_big htl) in_11 (htl _ (rc_m2 53 (by decide +kernel))),
  List.forall_mem_cons.mpr ⟨u_known (n := 6) htl in_s2 (htl _ (rc_m4 18 (by decide +kernel))),
  List.forall_mem_cons.mpr ⟨u_known (n := 6) htl in_s3 (htl _ (rc_m2 187 (by decide +kernel))),
  List.forall_mem_cons.mpr ⟨u_known (n := 6) (h_big htl) in_1 (htl _ (rc_m1 81 (by decide +kernel))),
  List.forall_mem_cons.mpr ⟨u_known (n := 14) (h_big htl) in_2 (htl _ (rc_m1 50 (by decide +kernel))),
  List.forall_mem_cons.mpr ⟨u_known (n := 3) (h_big htl) in_3 (htl _ (rc_m2 1 (by decide +kernel))),
  List.forall_mem_cons.mpr ⟨u_known (n := 3) (h_big htl) in_4 (htl _ (rc_m1 58 (by decide +kernel))),
  List.forall_mem_cons.mpr ⟨u_known (n := 3) (h_big htl) in_5 (htl _ (rc_m1 120 (by decide +kernel))),
  List.forall_mem_cons.mpr ⟨u_known (n := 3) (h_big htl) in_6 (htl _ (rc_m1 211 (by decide +kernel))),
  List.forall_mem_cons.mpr ⟨u_known (n := 7) (h_big htl) in_7 (htl _ (rc_m2 21 (by decide +kernel))),
  List.forall_mem_cons.mpr ⟨u_known (n := 2) (h_big htl) in_8 (htl _ (rc_m1 44 (by decide +kernel))),
  List.forall_mem_cons.mpr ⟨u_known (n := 9) (h_big htl) in_9 (htl _ (rc_m1 36 (by decide +kernel))),
  List.forall_mem_cons.mpr ⟨u_known (n := 22) (h_big htl) in_10 (htl _ (rc_m7 64 (by decide +kernel))), fun _ h => absurd h List.not_mem_nil⟩⟩⟩⟩⟩⟩⟩⟩⟩⟩⟩⟩⟩⟩
theorem h_K (htl : ∀ w ∈ lw_tbl, w.before args s = true) : ∃ (D : va_G) (cy : Nat → ClassId), va_K D vwCl (rc_tys cy) s := by
  have h0 := h_Kn htl
  obtain ⟨a0, a1, a2⟩ := h_arr (ty := .int) (htl _ (rc_m1 77 (by decide +kernel)))
  obtain ⟨b0, b1, b2⟩ := h_arr (ty := .char) (htl _ (rc_m2 51 (by decide +kernel)))
  obtain ⟨c0, c1, c2⟩ := h_arr (ty := .boolean) (htl _ (rc_m1 78 (by decide +kernel)))
  obtain ⟨d0, d1, d2⟩ := h_arr (ty := .byte) (htl _ (rc_m2 84 (by decide +kernel)))
  obtain ⟨e0, e1, e2⟩ := h_arrO (C := "RainCellar$Barrel") (htl _ (rc_m1 56 (by decide +kernel)))
  obtain ⟨f0, f1, f2⟩ := h_arrO (C := "RainCellar$Cellar") (htl _ (rc_m2 7 (by decide +kernel)))
  obtain ⟨g0, g1, g2⟩ := h_arrO (C := "RainCellar$Rainfall") (htl _ (rc_m1 80 (by decide +kernel)))
  have h1 : ∀ k : Nat, ∃ d : ClassId × (Nat → Nat), ∀ q, vwCl[k]? = some q → u_Kn s q.1 q.2.1 q.2.2 d.1 d.2 := fun k => by
    cases hk : vwCl[k]? with
    | none => exact ⟨(a0, fun _ => 0), fun q h => (by cases h)⟩
    | some q =>
      obtain ⟨cC, iS, h⟩ := h0 q (List.mem_of_getElem? hk)
      exact ⟨(cC, iS), fun q' h' => (by cases h'; exact h)⟩
  obtain ⟨f, hf⟩ := Classical.axiomOfChoice h1
  refine ⟨(fun k => (f k).1, fun k => (f k).2), fun i => match i with
    | 0 => a0
    | 1 => b0
    | 2 => c0
    | 3 => d0
    | 4 => e0
    | 5 => f0
    | _ => g0, fun c q hq => hf c q hq, fun k q hq => ?_⟩
  match k, hq with
  | 0, hq => cases hq; exact ⟨a1, a2⟩
  | 1, hq => cases hq; exact ⟨b1, b2⟩
  | 2, hq => cases hq; exact ⟨c1, c2⟩
  | 3, hq => cases hq; exact ⟨d1, d2⟩
  | 4, hq => cases hq; exact ⟨e1, e2⟩
  | 5, hq => cases hq; exact ⟨f1, f2⟩
  | 6, hq => cases hq; exact ⟨g1, g2⟩
  | k + 7, hq => cases hq
/-! the tables of digits, the texts -/
theorem h_d1 : ∀ j, j < 100 → (flatC narrow_1)[10 + j]? = some (Cond.eq (.elem (.static "java/lang/Integer" "DigitOnes" "[B") (.int (Int32.ofNat j))) (.int (rc_d1 j))) := by decide +kernel
theorem h_d10 : ∀ j, j < 100 → (flatC narrow_1)[113 + j]? = some (Cond.eq (.elem (.static "java/lang/Integer" "DigitTens" "[B") (.int (Int32.ofNat j))) (.int (rc_d10 j))) := by decide +kernel
def h_tm (i : Nat) : Term := .string "RainCellar$Text" (rc_sk i)
/-- the texts' places among the premises: the sixth (the letters) comes first there -/
def h_ps (i : Nat) : Nat := [526, 540, 557, 573, 587, 505].getD i 0
def h_or (i : Nat) : Nat := [1, 2, 3, 4, 5, 0].getD i 0
def h_pr (i j : Nat) : Nat := if h_or i < h_or j then [0, 539, 555, 570, 583, 598].getD (h_or j) 0 + h_or i else [0, 539, 555, 570, 583, 598].getD (h_or i) 0 + h_or j
def h_sp (i : Nat) : Nat := [1421, 1422, 1423, 1424, 1425, 1367].getD i 0
theorem h_t0 : ∀ i, i < 6 → (flatC narrow_1)[h_ps i]? = some (Cond.exactly (h_tm i) "java/lang/String") ∧ (flatC narrow_1)[h_ps i + 1]? = some (Cond.eq (.field (h_tm i) "java/lang/String" "coder" "B") (.int 0)) ∧ (flatC narrow_1)[h_ps i + 2]? = some (Cond.arrayOf (.field (h_tm i) "java/lang/String" "value" "[B") .byte) ∧ (flatC narrow_1)[h_ps i + 3]? = some (Cond.eq (.length (.field (h_tm i) "java/lang/String" "value" "[B")) (.int (Int32.ofNat (rc_len.getD i 0)))) := by decide +kernel
theorem h_t1 : ∀ i, i < 6 → ∀ j, j < rc_len.getD i 0 → (flatC narrow_1)[h_ps i + 4 + j]? = some (Cond.eq (.elem (.field (h_tm i) "java/lang/String" "value" "[B") (.int (Int32.ofNat j))) (.int ((rc_byt.getD i []).getD j 0))) := by decide +kernel
theorem h_t2 : ∀ i, i < 6 → ∀ j, j < 6 → i ≠ j → (flatC narrow_1)[h_pr i j]? = some (Cond.not (Cond.eq (h_tm i) (h_tm j))) ∨ (flatC narrow_1)[h_pr i j]? = some (Cond.not (Cond.eq (h_tm j) (h_tm i))) := by decide +kernel
theorem h_t3 : ∀ i, i < 6 → lw_tbl[h_sp i]? = some (Cond.stringRef "RainCellar$Text" (rc_sk i) (rc_tx i)) := by decide +kernel
theorem h_len : ∀ i, i < 6 → rc_len.getD i 0 < 2 ^ 31 := by decide
theorem h_E (htl : ∀ w ∈ lw_tbl, w.before args s = true) (hn : ∀ c ∈ flatC narrow_1, c.before args s = true) (D : va_G) (cy : Nat → ClassId) : ∃ tx : Nat → Nat, rc_E (s.heap.size, D, cy, tx) s s.heap := by
  have hA : ∀ a : Nat, a < s.heap.size → ¬ (fun q : Nat => s.heap.size ≤ q) a := fun a h => Nat.not_le.mpr h
  obtain ⟨t1, u1, v1⟩ := va_Tof (tm := .static "java/lang/Integer" "DigitOnes" "[B") (ty := .byte) (N := 100) (f := fun j => .int (rc_d1 j)) (A := fun q : Nat => s.heap.size ≤ q) (by decide) (h_nm 8 (by decide +kernel) hn) (va_eqt (h_nm 9 (by decide +kernel) hn)) (fun j hj => va_eqt (h_nm _ (h_d1 j hj) hn)) hA
  obtain ⟨t2, u2, v2⟩ := va_Tof (tm := .static "java/lang/Integer" "DigitTens" "[B") (ty := .byte) (N := 100) (f := fun j => .int (rc_d10 j)) (A := fun q : Nat => s.heap.size ≤ q) (by decide) (h_nm 111 (by decide +kernel) hn) (va_eqt (h_nm 112 (by decide +kernel) hn)) (fun j hj => va_eqt (h_nm _ (h_d10 j hj) hn)) hA
  obtain ⟨adK, adV, hs, hev⟩ := vk_Sof (N := 6) (tm := h_tm) (len := rc_len) (byt := rc_byt) (A := fun q : Nat => s.heap.size ≤ q) h_len (fun i hi => h_nm _ (h_t0 i hi).1 hn) (fun i hi => h_nm _ (h_t0 i hi).2.1 hn) (fun i hi => h_nm _ (h_t0 i hi).2.2.1 hn) (fun i hi => h_nm _ (h_t0 i hi).2.2.2 hn) (fun i hi j hj => h_nm _ (h_t1 i hi j hj) hn) (fun i j hi hj hij => by
    rcases h_t2 i hi j hj hij with h | h
    · exact Or.inl (h_nm _ h hn)
    · exact Or.inr (h_nm _ h hn)) hA
  refine ⟨fun i => if i < 100 then adK i else adV (i - 100), Nat.le_refl _, ?_, ?_, h_nw htl, ?_, ⟨t1, ?_, v1⟩, ⟨t2, ?_, v2⟩, ?_, ⟨fun i hi => ?_, fun i j hi hj e => ?_⟩, fun i hi => ?_⟩
  · exact vx_Zqof (htl (Cond.laysStatic "java/lang/Throwable" "UNASSIGNED_STACK" "[Ljava/lang/StackTraceElement;") (rc_m3 160 (by decide +kernel))) (htl (Cond.initialized "java/lang/Throwable") (rc_m1 16 (by decide +kernel))) (h_nm 213 (by decide +kernel) hn) hA
  · exact vx_Zqof (htl (Cond.laysStatic "java/lang/Throwable" "SUPPRESSED_SENTINEL" "Ljava/util/List;") (rc_m3 162 (by decide +kernel))) (htl (Cond.initialized "java/lang/Throwable") (rc_m1 16 (by decide +kernel))) (h_nm 214 (by decide +kernel) hn) hA
  · exact va_Zof (htl (Cond.laysStatic "java/lang/String" "COMPACT_STRINGS" "Z") (rc_m2 62 (by decide +kernel))) (htl (Cond.initialized "java/lang/String") (rc_m1 12 (by decide +kernel))) (va_eqi (h_nm 2 (by decide +kernel) hn)) hA
  · exact va_Zof (htl (Cond.laysStatic "java/lang/Integer" "DigitOnes" "[B") (rc_m3 86 (by decide +kernel))) (htl (Cond.initialized "java/lang/Integer") (rc_m1 33 (by decide +kernel))) u1 hA
  · exact va_Zof (htl (Cond.laysStatic "java/lang/Integer" "DigitTens" "[B") (rc_m3 88 (by decide +kernel))) (htl (Cond.initialized "java/lang/Integer") (rc_m1 33 (by decide +kernel))) u2 hA
  · exact va_Zqof (htl (Cond.laysStatic "jdk/internal/util/Preconditions" "SIOOBE_FORMATTER" "Ljava/util/function/BiFunction;") (rc_m3 16 (by decide +kernel))) (htl (Cond.initialized "jdk/internal/util/Preconditions") (rc_m1 26 (by decide +kernel))) (h_nm 3 (by decide +kernel) hn) hA
  · have h := hs.1 i hi
    have e1 : (if i < 100 then adK i else adV (i - 100)) = adK i := if_pos (by omega)
    have e2 : (if 100 + i < 100 then adK (100 + i) else adV (100 + i - 100)) = adV i := by rw [if_neg (by omega), Nat.add_sub_cancel_left]
    show va_O _ (if i < 100 then adK i else adV (i - 100)) _ _ _ ∧ va_OF _ _ _ _ (if i < 100 then adK i else adV (i - 100)) _ _ _ ∧ va_OF _ _ _ (.ref (if 100 + i < 100 then adK (100 + i) else adV (100 + i - 100))) (if i < 100 then adK i else adV (i - 100)) _ _ _ ∧ va_T _ (if 100 + i < 100 then adK (100 + i) else adV (100 + i - 100)) _ _ _ _ _
    rw [e1, e2]
    exact h
  · have e1 : (if i < 100 then adK i else adV (i - 100)) = adK i := if_pos (by omega)
    have e2 : (if j < 100 then adK j else adV (j - 100)) = adK j := if_pos (by omega)
    exact hs.2 i j hi hj (e1.symm.trans (e.trans e2))
  · have e1 : (if i < 100 then adK i else adV (i - 100)) = adK i := if_pos (by omega)
    show vk_R _ _ _ (if i < 100 then adK i else adV (i - 100)) _
    rw [e1]
    exact vk_R.of (htl _ (List.mem_of_getElem? (h_t3 i hi))) (hev i hi)
end HST
