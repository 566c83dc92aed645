/-! THE SMALL WORLD GROWS -/
section RCG
variable {Y : rc_Y} {sh : Nat → Nat} {rf : rc_F} {σ : rc_S} {H H1 H2 : Heap} {t n x o b : Nat} {L : List Nat}
theorem rc_z0 (hW : rc_W Y sh rf σ H) {q : Nat} (h : H.size ≤ q) : sh q = 0 := Classical.byContradiction (fun e => by have := hW.lt e; omega)
theorem rc_sbX (hT : rc_T Y sh rf) (hW : rc_W Y sh rf σ H) (hY : Y.1 ≤ H.size) (hq : ∀ q : Nat, q < H.size → H2[q]? = H[q]?) (hV : rc_V Y (rl_o rc_o0 H.size g_J4_init_da8c8) H2) : ∃ (sh' : Nat → Nat) (rf' : rc_F) (σ' : rc_S), rc_T Y sh' rf' ∧ rc_W Y sh' rf' σ' H2 ∧ sh' H.size = 11 ∧ rf' H.size 0 = H.size + 1 ∧ pB σ' H.size (H.size + 1) [] ∧ (∀ q, sh q ≠ 0 → sh' q = sh q ∧ rf' q = rf q ∧ σ' q = σ q) ∧ (∀ q, sh' q ≠ 0 → sh q ≠ 0 ∨ H.size ≤ q) := by
  refine ⟨_, _, _, ?_, rc_sbW hW (Nat.le_refl _) hq hV, rc_xs_e, rc_xr_e, pb_new, fun q h => ?_, fun q h => ?_⟩
  · exact rc_xoT (rc_xsT hT (rc_z0 hW (by omega)) (by omega) (t := 24) (by decide)) (by rw [rc_xs_n (by omega)]; exact rc_z0 hW (Nat.le_refl _)) hY (t := 11) (by decide) (by rw [rc_xs_e]; rfl)
  · have hl := hW.lt h
    refine ⟨by rw [rc_xs_n (by omega), rc_xs_n (by omega)], rc_xr_n (by omega), ?_⟩
    unfold rc_row
    rw [if_neg (by omega), if_neg (by omega)]
  · by_cases h1 : H.size ≤ q
    · exact Or.inr h1
    · rw [rc_xs_n (by omega), rc_xs_n (by omega)] at h
      exact Or.inl h
theorem rc_stX (hT : rc_T Y sh rf) (hW : rc_W Y sh rf σ H) (hY : Y.1 ≤ H.size) (ht : t ∈ [12, 13, 14, 15]) (hB : rc_pT Y sh rf σ t (rc_gc (σ b) (Int32.ofNat n)) H.size x H1) (hp : pB σ o b L) (hn : L.length = n) : ∃ (sh' : Nat → Nat) (rf' : rc_F) (σ' : rc_S), rc_T Y sh' rf' ∧ rc_W Y sh' rf' σ' H1 ∧ sh' x = t ∧ H.size ≤ x ∧ H.size ≤ rf' x 0 ∧ pTx σ' x (rf' x 0) L ∧ (∀ q, sh q ≠ 0 → sh' q = sh q ∧ rf' q = rf q ∧ σ' q = σ q) ∧ (∀ q, sh' q ≠ 0 → sh q ≠ 0 ∨ H.size ≤ q) := by
  obtain ⟨hx, a, ha, hax, hWx⟩ := hB
  have ht' : t ≠ 11 ∧ t ≠ 0 ∧ t ∈ [11, 12, 13, 14, 15] ∧ t + 20 ∈ [24, 32, 33, 34, 35] := by
    simp at ht; rcases ht with e | e | e | e <;> subst e <;> decide
  refine ⟨_, _, _, ?_, hWx, rc_xs_e, hx, by rw [rc_xr_e]; exact ha, by rw [rc_xr_e]; exact pb_ts hp hn hax, fun q h => ?_, fun q h => ?_⟩
  · exact rc_xoT (rc_xsT hT (rc_z0 hW ha) (by omega) ht'.2.2.2) (by rw [rc_xs_n (Ne.symm hax)]; exact rc_z0 hW hx) (by omega) ht'.2.2.1 (by rw [rc_xs_e]; unfold rc_ar; rw [if_neg ht'.1])
  · have hl := hW.lt h
    refine ⟨by rw [rc_xs_n (by omega), rc_xs_n (by omega)], rc_xr_n (by omega), ?_⟩
    unfold rc_row
    rw [if_neg (by omega), if_neg (by omega)]
  · by_cases h1 : H.size ≤ q
    · exact Or.inr h1
    · rw [rc_xs_n (by omega), rc_xs_n (by omega)] at h
      exact Or.inl h
end RCG
theorem rc_giA {p : Program} {l : Launch} {e : Env} {R : Room} {s : State} {m : MethodId} {args : Array Value} {below : List Frame} {meth : Method} {c : Code} {H : Heap} {locs : List Loc} {cells slots : Nat} {Q : State → Prop} {pc : Nat} {ls : Array Slot} {rest : List Value} {Y : rc_Y} {sh : Nat → Nat} {rf : rc_F} {σ1 : rc_S} {A A1 : Nat → Prop} {mc ms : Nat} {st0 : List Value} {av : Array Value} {v : Int32} (hS : va_S A s.heap H locs) (hA : ∀ q, A1 q → A q)
    (hr : va_Run p l e R s m args below meth c H locs cells slots mc ms (F0 m pc ls st0) rest (va_Qi (fun (r' : Int32) (_ : Unit) => r' = v) (fun _ t => rc_W Y sh rf σ1 t.heap) A1 av) A1)
    (kk : ∀ (H1 : Heap) (locs1 : List Loc), rc_W Y sh rf σ1 H1 → va_S A s.heap H1 locs1 → W p l e R s m args below meth c H1 locs1 (cells + mc) (slots + ms) Q (F0 m (pc + 3) ls (.int v :: rest))) : W p l e R s m args below meth c H locs cells slots Q (F0 m pc ls st0) :=
  va_calli hr hS (fun q _ h => hA q h) hA (fun r u t H1 locs1 ht _ hp hB _ _ hS1 => by
    subst hp
    exact kk H1 locs1 (by rw [← ht]; exact hB) hS1)
/-- a number of one digit -/
def rc_sm (u : Int32) : Bool := !(decide (u < 0)) && decide (u < 10)
theorem rc_smI {u : Int32} (h : rc_sm u = true) : ∃ v, v < 10 ∧ u = Int32.ofNat v ∧ u.toNatClampNeg = v := by
  unfold rc_sm at h
  simp only [Bool.and_eq_true, Bool.not_eq_true', decide_eq_false_iff_not, decide_eq_true_eq] at h
  obtain ⟨h1, h2⟩ := h
  have h3 : 0 ≤ u.toInt := by
    have := Int32.not_lt.mp h1
    simpa using Int32.le_iff_toInt_le.mp this
  have h4 : u.toInt < 10 := by
    rw [Int32.lt_iff_toInt_lt] at h2
    exact h2
  obtain ⟨v, hv, e⟩ := pq_natL (n := 9) h3 (by omega) (by decide)
  exact ⟨v, by omega, e, by rw [e, pq_cl (by omega)]⟩
def tx0 (v : Nat) : List Nat := [121, 59, 115, 48 + v, 42, 50]
def tx1 (v : Nat) : List Nat := [121, 59, 103, 48 + v]
def tx2 (v w y : Nat) : List Nat := [121, 59, 112, 48 + v, 62, 48 + w, 61, 48 + y]
def tx3 : List Nat := [121, 59]
theorem pb_c3 : ∀ j v, ([] : List Nat)[j]? = some v → v < 128 ∧ (rc_byt.getD 3 []).getD j 0 = Int32.ofNat v := fun j v hv => by
  simp at hv
theorem pb_c6 : ∀ j v, ([121, 59] : List Nat)[j]? = some v → v < 128 ∧ (rc_byt.getD 6 []).getD j 0 = Int32.ofNat v := fun j v hv => by
  match j, hv with
  | 0, hv => cases hv; decide
  | 1, hv => cases hv; decide
  | j + 2, hv => simp at hv
theorem pb_c7 : ∀ j v, ([115] : List Nat)[j]? = some v → v < 128 ∧ (rc_byt.getD 7 []).getD j 0 = Int32.ofNat v := fun j v hv => by
  match j, hv with
  | 0, hv => cases hv; decide
  | j + 1, hv => simp at hv
theorem pb_c8 : ∀ j v, ([42, 50] : List Nat)[j]? = some v → v < 128 ∧ (rc_byt.getD 8 []).getD j 0 = Int32.ofNat v := fun j v hv => by
  match j, hv with
  | 0, hv => cases hv; decide
  | 1, hv => cases hv; decide
  | j + 2, hv => simp at hv
theorem pb_c9 : ∀ j v, ([103] : List Nat)[j]? = some v → v < 128 ∧ (rc_byt.getD 9 []).getD j 0 = Int32.ofNat v := fun j v hv => by
  match j, hv with
  | 0, hv => cases hv; decide
  | j + 1, hv => simp at hv
theorem pb_c10 : ∀ j v, ([112] : List Nat)[j]? = some v → v < 128 ∧ (rc_byt.getD 10 []).getD j 0 = Int32.ofNat v := fun j v hv => by
  match j, hv with
  | 0, hv => cases hv; decide
  | j + 1, hv => simp at hv
theorem pb_c11 : ∀ j v, ([62] : List Nat)[j]? = some v → v < 128 ∧ (rc_byt.getD 11 []).getD j 0 = Int32.ofNat v := fun j v hv => by
  match j, hv with
  | 0, hv => cases hv; decide
  | j + 1, hv => simp at hv
theorem pb_c12 : ∀ j v, ([61] : List Nat)[j]? = some v → v < 128 ∧ (rc_byt.getD 12 []).getD j 0 = Int32.ofNat v := fun j v hv => by
  match j, hv with
  | 0, hv => cases hv; decide
  | j + 1, hv => simp at hv
