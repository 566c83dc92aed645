section PQOP2
variable {rf : rc_F} {x c m : Nat} {σ : rc_S} {g : Nat → Int32} {n p N b : Nat}
theorem q9_o0 (hM : pq_M rf m) (hb : b < 8) : f_X9_of rf m (Int32.ofNat b) 0 σ = some (σ (m + 1) (15 + 6 * b), σ) := q9_of0 hM rfl hb
theorem q9_o1 (hM : pq_M rf m) (hb : b < 8) : f_X9_of rf m (Int32.ofNat b) 1 σ = some (σ (m + 1) (16 + 6 * b), σ) := q9_of1 hM rfl hb
theorem q9_o2 (hM : pq_M rf m) (hb : b < 8) : f_X9_of rf m (Int32.ofNat b) 2 σ = some (σ (m + 1) (17 + 6 * b), σ) := q9_of2 hM rfl hb
theorem q9_o3 (hM : pq_M rf m) (hb : b < 8) : f_X9_of rf m (Int32.ofNat b) 3 σ = some (σ (m + 1) (18 + 6 * b), σ) := q9_of3 hM rfl hb
theorem q9_o4 (hM : pq_M rf m) (hb : b < 8) : f_X9_of rf m (Int32.ofNat b) 4 σ = some (σ (m + 1) (19 + 6 * b), σ) := q9_of4 hM rfl hb
theorem q9_o5 (hM : pq_M rf m) (hb : b < 8) : f_X9_of rf m (Int32.ofNat b) 5 σ = some (σ (m + 1) (20 + 6 * b), σ) := q9_of5 hM rfl hb
theorem q9_prt (hM : pq_M rf m) (hb : b < 8) : f_X9_part rf m (Int32.ofNat b) σ = some (pq_P (σ (m + 1)) b, σ) := q9_part hM rfl hb
theorem q9_nte (hM : pq_M rf m) (hb : b < 8) {k : Int32} : f_X9_noteOf rf m (Int32.ofNat b) k σ = some (pq_N (σ (m + 1)) b k, σ) := q9_note hM rfl hb
theorem pq_9b {u : Int32} (h : ¬ u < 1 ∧ ¬ 9 < u) : ∃ s, 1 ≤ s ∧ s ≤ 9 ∧ u = Int32.ofNat s := pq_9 h
theorem pq_20b {u : Int32} (h : ¬ u < 1 ∧ ¬ 20 < u) : ∃ s, 1 ≤ s ∧ s ≤ 20 ∧ u = Int32.ofNat s := by
  have a : ¬ u < 0 := by grind
  have b : u < Int32.ofNat 21 := by show u < 21; grind
  obtain ⟨s, hs, e⟩ := pq_nat a b (by decide)
  refine ⟨s, ?_, by omega, e⟩
  by_cases h0 : s = 0
  · subst h0; subst e; exact absurd (by decide) h.1
  · omega
/-- an emptied barrel -/
def pq_em (g : Nat → Int32) (b : Nat) : Nat → Int32 := upd (upd (upd (upd (upd g (16 + 6 * b) 0) (17 + 6 * b) 0) (18 + 6 * b) (-1)) (20 + 6 * b) 0) (19 + 6 * b) 0
/-- u litres, and hl of hail among them, go -/
def pq_go (g : Nat → Int32) (b : Nat) (u hl : Int32) : Nat → Int32 := if g (16 + 6 * b) - u = 0 then pq_em (upd (upd g (16 + 6 * b) (g (16 + 6 * b) - u)) (17 + 6 * b) (g (17 + 6 * b) - hl)) b else upd (upd g (16 + 6 * b) (g (16 + 6 * b) - u)) (17 + 6 * b) (g (17 + 6 * b) - hl)
/-- the hail in u litres -/
def pq_hi (g : Nat → Int32) (b : Nat) (u : Int32) : Int32 := if u * pq_P g b / 100 < u - (g (16 + 6 * b) - g (17 + 6 * b)) then u - (g (16 + 6 * b) - g (17 + 6 * b)) else u * pq_P g b / 100
def pq_w (L H U : Nat) : Nat := if U * (100 * H / L) / 100 + (L - H) < U then U - (L - H) else U * (100 * H / L) / 100
def pq_wk (L H : Nat) : Bool := (List.range 21).all fun U => decide ((H ≤ L ∧ U ≤ L ∧ L ≠ 0) → (pq_w L H U ≤ H ∧ pq_w L H U ≤ U ∧ U + H ≤ L + pq_w L H U))
theorem pq_wkA : ∀ L, L < 21 → ∀ H, H < 21 → pq_wk L H = true := by decide +kernel
theorem pq_hi0 (L : Nat) (hL : L < 21) (H : Nat) (hH : H < 21) (U : Nat) (hU : U < 21) (h : H ≤ L ∧ U ≤ L ∧ L ≠ 0) : pq_w L H U ≤ H ∧ pq_w L H U ≤ U ∧ U + H ≤ L + pq_w L H U :=
  of_decide_eq_true (List.all_eq_true.mp (pq_wkA L hL H hH) U (List.mem_range.mpr hU)) h
theorem pq_hiN {L H U : Nat} (h1 : H ≤ L) (h2 : L ≤ 20) (h3 : U ≤ L) (h0 : L ≠ 0) (e1 : g (17 + 6 * b) = Int32.ofNat H) (e2 : g (16 + 6 * b) = Int32.ofNat L) : ∃ W, W ≤ H ∧ W ≤ U ∧ U + H ≤ L + W ∧ pq_hi g b (Int32.ofNat U) = Int32.ofNat W := by
  obtain ⟨a1, a2, a3⟩ := pq_hi0 L (by omega) H (by omega) U (by omega) ⟨h1, h3, h0⟩
  refine ⟨_, a1, a2, a3, ?_⟩
  have hP : 100 * H / L ≤ 100 := Nat.div_le_of_le_mul (by rw [Nat.mul_comm L]; exact Nat.mul_le_mul_left 100 h1)
  have hm : U * (100 * H / L) ≤ 20 * 100 := Nat.mul_le_mul (by omega) hP
  have hd : U * (100 * H / L) / 100 ≤ 20 * 100 := Nat.le_trans (Nat.div_le_self _ _) hm
  have eP : pq_P g b = Int32.ofNat (100 * H / L) := by rw [pq_P, e1, e2, pq_prN (by omega) (by omega), if_neg h0]
  unfold pq_hi pq_w
  rw [eP, e1, e2]
  clear a1 a2 a3 eP
  generalize 100 * H / L = P at hP hm hd ⊢
  have eq1 : Int32.ofNat U * Int32.ofNat P / 100 = Int32.ofNat (U * P / 100) := by rw [Int32.ofNat_div (by omega) (by decide), Int32.ofNat_mul]; rfl
  rw [eq1, ← Int32.ofNat_sub _ _ h1]
  generalize U * P / 100 = A at hd ⊢
  by_cases hc : A + (L - H) < U
  · rw [if_pos hc, ← Int32.ofNat_sub _ _ (by omega), if_pos ((pq_lt (by omega) (by omega)).mpr (by omega))]
  · rw [if_neg hc, if_neg]
    rw [Int32.lt_iff_toInt_lt, pq_ti (by omega), Int32.toInt_sub, pq_ti (by omega), pq_ti (by omega)]
    rw [Int.bmod_eq_of_le (by omega) (by omega)]
    omega
theorem q9_hi (hM : pq_M rf m) (hb : b < 8) {u : Int32} : f_X9_hailIn rf m (Int32.ofNat b) u σ = some (pq_hi (σ (m + 1)) b u, σ) := by
  simp only [f_X9_hailIn, q9_prt hM hb, q9_o1 hM hb, q9_o2 hM hb, pq_bd, rc_lt, pq_hi, Int32.mul_comm u]
  by_cases h : u - (σ (m + 1) (16 + 6 * b) - σ (m + 1) (17 + 6 * b)) ≤ pq_P (σ (m + 1)) b * u / 100
  · rw [if_pos h, if_neg (Int32.not_lt.mpr h)]
  · rw [if_neg h, if_pos (Int32.not_le.mp h)]
theorem q9_em (hM : pq_M rf m) (hb : b < 8) : ∃ s, f_X9_empties rf m (Int32.ofNat b) σ = some ((), s) ∧ s (m + 1) = pq_em (σ (m + 1)) b ∧ ∀ a, a ≠ m + 1 → s a = σ a := by
  refine ⟨rc_up (rc_up (rc_up (rc_up (rc_up σ (m + 1) (16 + 6 * b) 0) (m + 1) (17 + 6 * b) 0) (m + 1) (18 + 6 * b) (-1)) (m + 1) (19 + 6 * b) 0) (m + 1) (20 + 6 * b) 0, ?_, ?_, fun a ha => by simp only [pq_upN ha]⟩
  · simp only [f_X9_empties, q9_st1 hM hb, q9_st2 hM hb, q9_st3 hM hb, q9_st4 hM hb, q9_st5 hM hb, pq_bd]
  · simp only [pq_upE, pq_em]
    funext j
    simp only [upd]
    repeat' split
    all_goals first | rfl | omega
theorem q9_go (hM : pq_M rf m) (hb : b < 8) {u hl : Int32} : ∃ s, f_X9_goes rf m (Int32.ofNat b) u hl σ = some ((), s) ∧ s (m + 1) = pq_go (σ (m + 1)) b u hl ∧ ∀ a, a ≠ m + 1 → s a = σ a := by
  obtain ⟨s1, e1, r1, f1⟩ := q9_em (σ := rc_up (rc_up σ (m + 1) (16 + 6 * b) (σ (m + 1) (16 + 6 * b) - u)) (m + 1) (17 + 6 * b) (σ (m + 1) (17 + 6 * b) - hl)) hM hb
  by_cases h : σ (m + 1) (16 + 6 * b) - u = 0
  · refine ⟨s1, ?_, ?_, fun a ha => by rw [f1 a ha, pq_upN ha, pq_upN ha]⟩
    · simp (disch := omega) only [f_X9_goes, q9_o1 hM hb, q9_o2 hM hb, q9_st1 hM hb, q9_st2 hM hb, pq_bd, pq_upE, pq_udE, pq_udN, h, if_true]
      rw [h] at e1
      rw [e1, pq_bd]
    · rw [r1, pq_go, if_pos h]
      simp only [pq_upE]
  · refine ⟨rc_up (rc_up σ (m + 1) (16 + 6 * b) (σ (m + 1) (16 + 6 * b) - u)) (m + 1) (17 + 6 * b) (σ (m + 1) (17 + 6 * b) - hl), ?_, ?_, fun a ha => by rw [pq_upN ha, pq_upN ha]⟩
    · simp (disch := omega) only [f_X9_goes, q9_o1 hM hb, q9_o2 hM hb, q9_st1 hM hb, q9_st2 hM hb, pq_bd, pq_upE, pq_udE, pq_udN, h, if_false]
    · rw [pq_go, if_neg h]
      simp only [pq_upE]
/-- the class: an emptied barrel, what is taken out -/
theorem q0_em {S : Nat → Prop} (h : pq_S σ c g S) (hb : b < 8) : ∃ s, f_X0_makeEmpty rf (c + 7 + b) σ = some ((), s) ∧ pq_S s c (pq_em g b) S ∧ ∀ a, a ≠ c + 7 + b → s a = σ a := by
  refine ⟨rc_up (rc_up (rc_up (rc_up (rc_up σ (c + 7 + b) 1 0) (c + 7 + b) 2 0) (c + 7 + b) 3 (-1)) (c + 7 + b) 4 0) (c + 7 + b) 5 0, ?_, fun i hi hS => pq_Sb4 (pq_Sb5 (pq_Sb3 (pq_Sb2 (pq_Sb1 h hb 0) hb 0) hb (-1)) hb 0) hb 0 i hi (Or.inl (Or.inl (Or.inl (Or.inl (Or.inl hS))))), fun a ha => by simp only [pq_upN ha]⟩
  simp only [f_X0_makeEmpty, rc_lt]
theorem q0_go {S : Nat → Prop} (h : pq_S σ c g S) (hb : b < 8) (hl0 : 0 ≤ (g (16 + 6 * b)).toInt) (hS1 : S (16 + 6 * b)) (hS2 : S (17 + 6 * b)) {u : Int32} : ∃ s, f_X0_takeOut rf (c + 7 + b) u σ = some (pq_hi g b u, s) ∧ pq_S s c (pq_go g b u (pq_hi g b u)) S ∧ ∀ a, a ≠ c + 7 + b → s a = σ a := by
  have v1 : σ (c + 7 + b) 1 = g (16 + 6 * b) := by
    have e := h (15 + 6 * b + 1) (by omega) (by rw [show 15 + 6 * b + 1 = 16 + 6 * b by omega]; exact hS1)
    rw [(pq_adb hb (by omega)).1, (pq_adb hb (by omega)).2, ← Nat.add_assoc, show 15 + 6 * b + 1 = 16 + 6 * b by omega] at e; exact e
  have v2 : σ (c + 7 + b) 2 = g (17 + 6 * b) := by
    have e := h (15 + 6 * b + 2) (by omega) (by rw [show 15 + 6 * b + 2 = 17 + 6 * b by omega]; exact hS2)
    rw [(pq_adb hb (by omega)).1, (pq_adb hb (by omega)).2, ← Nat.add_assoc, show 15 + 6 * b + 2 = 17 + 6 * b by omega] at e; exact e
  have hi : f_X0_hailIn rf (c + 7 + b) u σ = some (pq_hi g b u, σ) := by
    rw [q0_hailIn (by rw [v1]; exact hl0), v1, v2]; rfl
  have hS' : pq_S (rc_up (rc_up σ (c + 7 + b) 1 (g (16 + 6 * b) - u)) (c + 7 + b) 2 (g (17 + 6 * b) - pq_hi g b u)) c (upd (upd g (16 + 6 * b) (g (16 + 6 * b) - u)) (17 + 6 * b) (g (17 + 6 * b) - pq_hi g b u)) S := fun i hi hS => pq_Sb2 (pq_Sb1 h hb _) hb _ i hi (Or.inl (Or.inl hS))
  obtain ⟨s1, e1, r1, f1⟩ := q0_em (rf := rf) hS' hb
  by_cases hc : g (16 + 6 * b) - u = 0
  · refine ⟨s1, ?_, ?_, fun a ha => by rw [f1 a ha, pq_upN ha, pq_upN ha]⟩
    · rw [hc] at e1
      simp (disch := omega) only [f_X0_takeOut, hi, pq_bd, rc_lt, v1, v2, pq_upE, pq_udE, pq_udN, hc, if_true]
      rw [e1, pq_bd]
    · rw [pq_go, if_pos hc]; exact r1
  · refine ⟨rc_up (rc_up σ (c + 7 + b) 1 (g (16 + 6 * b) - u)) (c + 7 + b) 2 (g (17 + 6 * b) - pq_hi g b u), ?_, ?_, fun a ha => by rw [pq_upN ha, pq_upN ha]⟩
    · simp (disch := omega) only [f_X0_takeOut, hi, pq_bd, rc_lt, v1, v2, pq_upE, pq_udE, pq_udN, hc, if_false]
    · rw [pq_go, if_neg hc]; exact hS'
theorem pq_emN (j : Nat) (h : j < 16 + 6 * b ∨ 21 + 6 * b ≤ j) : pq_em g b j = g j := by
  unfold pq_em
  simp (disch := omega) only [pq_udN]
theorem pq_emE : pq_em g b (16 + 6 * b) = 0 ∧ pq_em g b (17 + 6 * b) = 0 ∧ pq_em g b (18 + 6 * b) = -1 ∧ pq_em g b (19 + 6 * b) = 0 ∧ pq_em g b (20 + 6 * b) = 0 := by
  unfold pq_em
  refine ⟨?_, ?_, ?_, ?_, ?_⟩ <;> simp (disch := omega) only [pq_udN, pq_udE]
theorem pq_goN {u hl : Int32} (j : Nat) (h : j < 16 + 6 * b ∨ 21 + 6 * b ≤ j) : pq_go g b u hl j = g j := by
  unfold pq_go
  split
  · rw [pq_emN j h]; simp (disch := omega) only [pq_udN]
  · simp (disch := omega) only [pq_udN]
theorem pq_goU {u hl v : Int32} (i : Nat) (h : i < 16 + 6 * b ∨ 21 + 6 * b ≤ i) : pq_go (upd g i v) b u hl = upd (pq_go g b u hl) i v := by
  unfold pq_go pq_em
  rw [pq_udN (show 16 + 6 * b ≠ i by omega), pq_udN (show 17 + 6 * b ≠ i by omega)]
  split
  all_goals
    funext j
    simp only [upd]
    repeat' split
    all_goals first | rfl | omega
theorem pq_emC {A B : Nat → Int32} (h : ∀ j, (j < 16 + 6 * b ∨ 21 + 6 * b ≤ j) → A j = B j) : pq_em A b = pq_em B b := by
  funext j
  by_cases hj : j < 16 + 6 * b ∨ 21 + 6 * b ≤ j
  · rw [pq_emN j hj, pq_emN j hj, h j hj]
  · have zA := pq_emE (g := A) (b := b)
    have zB := pq_emE (g := B) (b := b)
    have : j = 16 + 6 * b ∨ j = 17 + 6 * b ∨ j = 18 + 6 * b ∨ j = 19 + 6 * b ∨ j = 20 + 6 * b := by omega
    rcases this with e | e | e | e | e <;> subst e
    · rw [zA.1, zB.1]
    · rw [zA.2.1, zB.2.1]
    · rw [zA.2.2.1, zB.2.2.1]
    · rw [zA.2.2.2.1, zB.2.2.2.1]
    · rw [zA.2.2.2.2, zB.2.2.2.2]
theorem pq_hiU {u v : Int32} (i : Nat) (h : i < 16 + 6 * b ∨ 21 + 6 * b ≤ i) : pq_hi (upd g i v) b u = pq_hi g b u := by
  unfold pq_hi pq_P
  rw [pq_udN (show 16 + 6 * b ≠ i by omega), pq_udN (show 17 + 6 * b ≠ i by omega)]
theorem pq_NU {k v : Int32} (i : Nat) (h : i ≠ 3 ∧ (i < 16 + 6 * b ∨ 21 + 6 * b ≤ i)) : pq_N (upd g i v) b k = pq_N g b k := by
  unfold pq_N
  rw [pq_udN (show 16 + 6 * b ≠ i by omega), pq_udN (show 17 + 6 * b ≠ i by omega), pq_udN (show 19 + 6 * b ≠ i by omega), pq_udN (show 20 + 6 * b ≠ i by omega), pq_udN (show 3 ≠ i by omega)]
/-- the barrel is sound after that -/
theorem pq_goV {y : Int32} {L H U W N : Nat} {hl : Int32} (hB : pq_vB y (g (15 + 6 * b)) (g (16 + 6 * b)) (g (17 + 6 * b)) (g (18 + 6 * b)) (g (19 + 6 * b)) (g (20 + 6 * b)) N) (hy : 0 ≤ y.toInt) (h1 : H ≤ L) (h2 : L ≤ 20) (h3 : U ≤ L) (h0 : L ≠ 0) (w1 : W ≤ H) (w2 : U + H ≤ L + W) (e1 : g (17 + 6 * b) = Int32.ofNat H) (e2 : g (16 + 6 * b) = Int32.ofNat L) (e3 : hl = Int32.ofNat W) :
    pq_vB y (pq_go g b (Int32.ofNat U) hl (15 + 6 * b)) (pq_go g b (Int32.ofNat U) hl (16 + 6 * b)) (pq_go g b (Int32.ofNat U) hl (17 + 6 * b)) (pq_go g b (Int32.ofNat U) hl (18 + 6 * b)) (pq_go g b (Int32.ofNat U) hl (19 + 6 * b)) (pq_go g b (Int32.ofNat U) hl (20 + 6 * b)) N := by
  have eL : g (16 + 6 * b) - Int32.ofNat U = Int32.ofNat (L - U) := by rw [e2, Int32.ofNat_sub _ _ h3]
  have eH : g (17 + 6 * b) - hl = Int32.ofNat (H - W) := by rw [e1, e3, Int32.ofNat_sub _ _ w1]
  have hLz : g (16 + 6 * b) ≠ 0 := fun q => h0 (by rw [e2] at q; exact (pq_eq (by omega) (show 0 < 2147483648 by decide)).mp q)
  rw [pq_goN (15 + 6 * b) (by omega)]
  unfold pq_go
  rw [eL, eH]
  by_cases hc : Int32.ofNat (L - U) = 0
  · rw [if_pos hc]
    have z := pq_emE (g := upd (upd g (16 + 6 * b) (Int32.ofNat (L - U))) (17 + 6 * b) (Int32.ofNat (H - W))) (b := b)
    rw [z.1, z.2.1, z.2.2.1, z.2.2.2.1, z.2.2.2.2]
    exact ⟨hB.1, by decide, ⟨by decide, by rw [show (-1 : Int32).toInt = -1 from rfl]; omega⟩, by decide, ⟨by decide, by rw [Int32.toInt_zero]; exact hy⟩, fun _ => ⟨rfl, rfl, rfl, rfl⟩, fun q => absurd rfl q⟩
  · rw [if_neg hc]
    simp (disch := omega) only [pq_udN, pq_udE]
    refine ⟨hB.1, ⟨?_, ?_, ?_⟩, hB.2.2.1, hB.2.2.2.1, hB.2.2.2.2.1, fun q => absurd q hc, fun _ => hB.2.2.2.2.2.2 hLz⟩
    · rw [pq_ti (by omega)]; omega
    · rw [pq_ti (by omega), pq_ti (by omega)]; omega
    · rw [pq_ti (by omega)]; omega

theorem qo_hail (hX : pq_X rf x) {u k : Int32} : pq_Op x (f_X7_adulterate rf (x + 1) u k) (f_X9_adulterates rf (x + 308) u k) := by
  intro σ n p Bd g hR hV hB
  have hK := pq_xk hX
  have hM := pq_xm hX
  have h8 := pq_vn hV
  have h4 := pq_vp hV
  have hS := pq_RS hR h8 h4
  by_cases h1 : ¬ u < 0 ∧ u < g 0
  · obtain ⟨b, hb, rfl⟩ := pq_ub hV h1
    have hb8 : b < 8 := by omega
    obtain ⟨H, L, T, a1, a2, a3, e1, e2, e3⟩ := pq_bN hV hb
    obtain ⟨Bk, a4, e4⟩ := pq_natL (n := 9) (pq_v2 hV).1 (pq_v2 hV).2 (by decide)
    by_cases h2 : ¬ k < 1 ∧ ¬ 9 < k
    · obtain ⟨k, k1, k9, rfl⟩ := pq_9 h2
      by_cases h3 : g (16 + 6 * b) = 0
      · refine Or.inl ⟨6, 0, by decide, ?_, fun τ hτ => ?_⟩
        · simp (disch := omega) only [f_X7_adulterate, q1_has hR, q8_out, q5_bec, pq_kb hK, pq_b1 hR, pq_b2 hR, pq_b3 hR, q0_empty, f_X0_room, f_X0_isFreeFor, pq_w0 hX, pq_w1 hX, pq_k0 hK, pq_k1 hK, pq_k3 hK, pq_k4 hK, pq_kp hK, pq_ks hK, pq_bd, pq_ck, pq_bx, rc_lt, pq_i10, pq_i01, not_false_eq_true, not_true_eq_false, and_self, and_true, true_and, and_false, false_and, or_true, true_or, or_false, false_or, if_true, if_false, ↓reduceIte, Decidable.not_not, ne_eq, Int32.reduceLE, Int32.reduceLT, pq_nes, eq_self, pq_c0 hR, pq_c2 hR, pq_in, pq_cl, h1, h2, h3]
        · simp (disch := omega) only [f_X9_adulterates, q9_isB hM hτ hV, q9_in, q9_ref, pq_m1 hM, hτ, q9_o1 hM, q9_o2 hM, pq_bd, pq_ck, pq_bx, rc_lt, pq_i10, pq_i01, not_false_eq_true, not_true_eq_false, and_self, and_true, true_and, and_false, false_and, or_true, true_or, or_false, false_or, if_true, if_false, ↓reduceIte, Decidable.not_not, ne_eq, Int32.reduceLE, Int32.reduceLT, pq_nes, eq_self, h1, h2, h3]
      · by_cases h4' : Int32.ofNat k ≤ g 2
        · by_cases h5 : Int32.ofNat k ≤ 20 - g (16 + 6 * b)
          · have z4 : k ≤ Bk := by rw [e4] at h4'; exact (pq_le (by omega) (by omega)).mp h4'
            have z5 : L + k ≤ 20 := by
              rw [e2, show (20 : Int32) - Int32.ofNat L = Int32.ofNat (20 - L) by rw [Int32.ofNat_sub _ _ a2]; rfl] at h5
              have := (pq_le (by omega) (by omega)).mp h5
              omega
            have eL : g (16 + 6 * b) + Int32.ofNat k = Int32.ofNat (L + k) := by rw [e2, Int32.ofNat_add]
            have eH : g (17 + 6 * b) + Int32.ofNat k = Int32.ofNat (H + k) := by rw [e1, Int32.ofNat_add]
            have eB : g 2 - Int32.ofNat k = Int32.ofNat (Bk - k) := by rw [e4, Int32.ofNat_sub _ _ z4]
            refine Or.inr ⟨pq_part (g (17 + 6 * b) + Int32.ofNat k) (g (16 + 6 * b) + Int32.ofNat k), rc_up (rc_up (rc_up (rc_up σ (x + 2 + 7 + b) 1 (g (16 + 6 * b) + Int32.ofNat k)) (x + 2 + 7 + b) 2 (g (17 + 6 * b) + Int32.ofNat k)) (x + 2) 6 (g 2 - Int32.ofNat k)) (x + 2) 9 (g 6 + Int32.ofNat k), upd (upd (upd (upd g (16 + 6 * b) (g (16 + 6 * b) + Int32.ofNat k)) (17 + 6 * b) (g (17 + 6 * b) + Int32.ofNat k)) 2 (g 2 - Int32.ofNat k)) 6 (g 6 + Int32.ofNat k), n, p, ?_, ?_, fun a ha => by simp (disch := omega) only [pq_upN], pq_SR (pq_Sc6 (pq_Sc2 (pq_Sb2 (pq_Sb1 hS hb8 _) hb8 _) _) _) h8 h4 (fun j hj hl => Or.inl (Or.inl (Or.inl (Or.inl hl)))), ?_, fun τ hτ => ⟨rc_up (rc_up (rc_up (rc_up (rc_up τ (x + 308 + 1) 2 (g 2 - Int32.ofNat k)) (x + 308 + 1) 6 (g 6 + Int32.ofNat k)) (x + 308 + 1) (16 + 6 * b) (g (16 + 6 * b) + Int32.ofNat k)) (x + 308 + 1) (17 + 6 * b) (g (17 + 6 * b) + Int32.ofNat k)) (x + 308) 17 (pq_part (g (17 + 6 * b) + Int32.ofNat k) (g (16 + 6 * b) + Int32.ofNat k)), ?_, pq_fin ?_ (fun a ha => by simp only [pq_upN ha])⟩⟩
            · rw [eL, eH, pq_prN (by omega) (by omega)]
              have := pq_p100 (h := H + k) (l := L + k) (by omega)
              exact pq_nnN (by omega)
            · simp (disch := omega) only [f_X7_adulterate, q1_has hR, q8_out, q5_bec, pq_kb hK, pq_b1 hR, pq_b2 hR, pq_b3 hR, q0_empty, f_X0_room, f_X0_isFreeFor, pq_w0 hX, pq_w1 hX, pq_k0 hK, pq_k1 hK, pq_k3 hK, pq_k4 hK, pq_kp hK, pq_ks hK, pq_bd, pq_ck, pq_bx, rc_lt, pq_i10, pq_i01, not_false_eq_true, not_true_eq_false, and_self, and_true, true_and, and_false, false_and, or_true, true_or, or_false, false_or, if_true, if_false, ↓reduceIte, Decidable.not_not, ne_eq, Int32.reduceLE, Int32.reduceLT, pq_nes, eq_self, pq_c0 hR, pq_c2 hR, pq_in, pq_cl, h1, h2, h3, h4', h5, pq_upE, pq_udE, pq_udN, pq_upN, pq_c6 hR]
              rw [q0_part (by simp (disch := omega) only [pq_upE, pq_udE, pq_udN, pq_upN]; rw [eL, pq_ti (by omega)]; omega)]
              simp (disch := omega) only [pq_bd, pq_upE, pq_udE, pq_udN, pq_upN]
            · refine pq_Vn hV ⟨by simp (disch := omega) only [pq_udN]; exact pq_v0 hV, h8⟩ ⟨by simp (disch := omega) only [pq_udN]; exact pq_v1 hV, h4⟩ (Or.inr ?_) (Or.inl (by simp (disch := omega) only [pq_udN])) (Or.inl (by simp (disch := omega) only [pq_udN])) (fun r hr => Or.inl (by simp (disch := omega) only [pq_udN])) (fun b' hb' => ?_) (fun j hj => Or.inl ⟨hj, by simp (disch := omega) only [pq_udN], by simp (disch := omega) only [pq_udN]⟩)
              · simp (disch := omega) only [pq_udN, pq_udE]
                rw [eB, pq_ti (by omega)]; omega
              · by_cases e : b' = b
                · subst e
                  have z := pq_VB hV hb
                  refine Or.inr ?_
                  simp (disch := omega) only [pq_udN, pq_udE]
                  rw [eL, eH]
                  refine ⟨z.1, ⟨by rw [pq_ti (by omega)]; omega, by rw [pq_ti (by omega), pq_ti (by omega)]; omega, by rw [pq_ti (by omega)]; omega⟩, ⟨z.2.2.1.1, by have := z.2.2.1.2; omega⟩, z.2.2.2.1, z.2.2.2.2.1, fun q => ?_, fun _ => z.2.2.2.2.2.2 h3⟩
                  have := (pq_eq (by omega) (show 0 < 2147483648 by decide)).mp q
                  omega
                · exact Or.inl ⟨hb', fun k hk => by simp (disch := omega) only [pq_udN]⟩
            · simp (disch := omega) only [f_X9_adulterates, q9_isB hM hτ hV, q9_in, q9_ref, pq_m1 hM, hτ, q9_o1 hM, q9_o2 hM, pq_bd, pq_ck, pq_bx, rc_lt, pq_i10, pq_i01, not_false_eq_true, not_true_eq_false, and_self, and_true, true_and, and_false, false_and, or_true, true_or, or_false, false_or, if_true, if_false, ↓reduceIte, Decidable.not_not, ne_eq, Int32.reduceLE, Int32.reduceLT, pq_nes, eq_self, h1, h2, h3, h4', h5, q9_st1 hM, q9_st2 hM, q9_prt hM, pq_upE, pq_udE, pq_udN, pq_P, q9_don]
            · simp only [pq_upE, hτ]
              funext j
              simp only [upd]
              repeat' split
              all_goals first | rfl | omega
          · refine Or.inl ⟨7, 20 - g (16 + 6 * b), by decide, ?_, fun τ hτ => ?_⟩
            · simp (disch := omega) only [f_X7_adulterate, q1_has hR, q8_out, q5_bec, pq_kb hK, pq_b1 hR, pq_b2 hR, pq_b3 hR, q0_empty, f_X0_room, f_X0_isFreeFor, pq_w0 hX, pq_w1 hX, pq_k0 hK, pq_k1 hK, pq_k3 hK, pq_k4 hK, pq_kp hK, pq_ks hK, pq_bd, pq_ck, pq_bx, rc_lt, pq_i10, pq_i01, not_false_eq_true, not_true_eq_false, and_self, and_true, true_and, and_false, false_and, or_true, true_or, or_false, false_or, if_true, if_false, ↓reduceIte, Decidable.not_not, ne_eq, Int32.reduceLE, Int32.reduceLT, pq_nes, eq_self, pq_c0 hR, pq_c2 hR, pq_in, pq_cl, h1, h2, h3, h4', h5]
            · simp (disch := omega) only [f_X9_adulterates, q9_isB hM hτ hV, q9_in, q9_ref, pq_m1 hM, hτ, q9_o1 hM, q9_o2 hM, pq_bd, pq_ck, pq_bx, rc_lt, pq_i10, pq_i01, not_false_eq_true, not_true_eq_false, and_self, and_true, true_and, and_false, false_and, or_true, true_or, or_false, false_or, if_true, if_false, ↓reduceIte, Decidable.not_not, ne_eq, Int32.reduceLE, Int32.reduceLT, pq_nes, eq_self, h1, h2, h3, h4', h5]
        · refine Or.inl ⟨10, g 2, by decide, ?_, fun τ hτ => ?_⟩
          · simp (disch := omega) only [f_X7_adulterate, q1_has hR, q8_out, q5_bec, pq_kb hK, pq_b1 hR, pq_b2 hR, pq_b3 hR, q0_empty, f_X0_room, f_X0_isFreeFor, pq_w0 hX, pq_w1 hX, pq_k0 hK, pq_k1 hK, pq_k3 hK, pq_k4 hK, pq_kp hK, pq_ks hK, pq_bd, pq_ck, pq_bx, rc_lt, pq_i10, pq_i01, not_false_eq_true, not_true_eq_false, and_self, and_true, true_and, and_false, false_and, or_true, true_or, or_false, false_or, if_true, if_false, ↓reduceIte, Decidable.not_not, ne_eq, Int32.reduceLE, Int32.reduceLT, pq_nes, eq_self, pq_c0 hR, pq_c2 hR, pq_in, pq_cl, h1, h2, h3, h4']
          · simp (disch := omega) only [f_X9_adulterates, q9_isB hM hτ hV, q9_in, q9_ref, pq_m1 hM, hτ, q9_o1 hM, q9_o2 hM, pq_bd, pq_ck, pq_bx, rc_lt, pq_i10, pq_i01, not_false_eq_true, not_true_eq_false, and_self, and_true, true_and, and_false, false_and, or_true, true_or, or_false, false_or, if_true, if_false, ↓reduceIte, Decidable.not_not, ne_eq, Int32.reduceLE, Int32.reduceLT, pq_nes, eq_self, h1, h2, h3, h4']
    · refine Or.inl ⟨1, 0, by decide, ?_, fun τ hτ => ?_⟩
      · simp (disch := omega) only [f_X7_adulterate, q1_has hR, q8_out, q5_bec, pq_kb hK, pq_b1 hR, pq_b2 hR, pq_b3 hR, q0_empty, f_X0_room, f_X0_isFreeFor, pq_w0 hX, pq_w1 hX, pq_k0 hK, pq_k1 hK, pq_k3 hK, pq_k4 hK, pq_kp hK, pq_ks hK, pq_bd, pq_ck, pq_bx, rc_lt, pq_i10, pq_i01, not_false_eq_true, not_true_eq_false, and_self, and_true, true_and, and_false, false_and, or_true, true_or, or_false, false_or, if_true, if_false, ↓reduceIte, Decidable.not_not, ne_eq, Int32.reduceLE, Int32.reduceLT, pq_nes, eq_self, pq_c0 hR, pq_c2 hR, pq_in, pq_cl, h1, if_neg h2]
      · simp (disch := omega) only [f_X9_adulterates, q9_isB hM hτ hV, q9_in, q9_ref, pq_m1 hM, hτ, q9_o1 hM, q9_o2 hM, pq_bd, pq_ck, pq_bx, rc_lt, pq_i10, pq_i01, not_false_eq_true, not_true_eq_false, and_self, and_true, true_and, and_false, false_and, or_true, true_or, or_false, false_or, if_true, if_false, ↓reduceIte, Decidable.not_not, ne_eq, Int32.reduceLE, Int32.reduceLT, pq_nes, eq_self, h1, if_neg h2]
  · refine Or.inl ⟨3, g 0, by decide, ?_, fun τ hτ => ?_⟩
    · simp (disch := omega) only [f_X7_adulterate, q1_has hR, q8_out, q5_bec, pq_kb hK, pq_b1 hR, pq_b2 hR, pq_b3 hR, q0_empty, f_X0_room, f_X0_isFreeFor, pq_w0 hX, pq_w1 hX, pq_k0 hK, pq_k1 hK, pq_k3 hK, pq_k4 hK, pq_kp hK, pq_ks hK, pq_bd, pq_ck, pq_bx, rc_lt, pq_i10, pq_i01, not_false_eq_true, not_true_eq_false, and_self, and_true, true_and, and_false, false_and, or_true, true_or, or_false, false_or, if_true, if_false, ↓reduceIte, Decidable.not_not, ne_eq, Int32.reduceLE, Int32.reduceLT, pq_nes, eq_self, pq_c0 hR, pq_c2 hR, pq_in, pq_cl, if_neg h1]
    · simp (disch := omega) only [f_X9_adulterates, q9_isB hM hτ hV, q9_in, q9_ref, pq_m1 hM, hτ, q9_o1 hM, q9_o2 hM, pq_bd, pq_ck, pq_bx, rc_lt, pq_i10, pq_i01, not_false_eq_true, not_true_eq_false, and_self, and_true, true_and, and_false, false_and, or_true, true_or, or_false, false_or, if_true, if_false, ↓reduceIte, Decidable.not_not, ne_eq, Int32.reduceLE, Int32.reduceLT, pq_nes, eq_self, if_neg h1]
theorem qo_drink (hX : pq_X rf x) {u : Int32} : pq_Op x (f_X7_letPanelDrink rf (x + 1) u) (f_X9_drinks rf (x + 308) u) := by
  intro σ n p Bd g hR hV hB
  have hK := pq_xk hX
  have hM := pq_xm hX
  have h8 := pq_vn hV
  have h4 := pq_vp hV
  have hS := pq_RS hR h8 h4
  by_cases h1 : ¬ u < 0 ∧ u < g 0
  · obtain ⟨b, hb, rfl⟩ := pq_ub hV h1
    have hb8 : b < 8 := by omega
    obtain ⟨H, L, T, a1, a2, a3, e1, e2, e3⟩ := pq_bN hV hb
    obtain ⟨v, hv9, ev⟩ := pq_N9 hV (by omega) hb
    by_cases h2 : g 1 = 0
    · refine Or.inl ⟨11, 0, by decide, ?_, fun τ hτ => ?_⟩
      · simp (disch := omega) only [f_X7_letPanelDrink, q1_has hR, q5_bec, pq_kb hK, pq_b1 hR, pq_b2 hR, pq_b3 hR, q0_empty, f_X0_room, f_X0_isFreeFor, pq_w0 hX, pq_w1 hX, pq_k0 hK, pq_k1 hK, pq_k3 hK, pq_k4 hK, pq_kp hK, pq_ks hK, pq_bd, pq_ck, pq_bx, rc_lt, pq_i10, pq_i01, not_false_eq_true, not_true_eq_false, and_self, and_true, true_and, and_false, false_and, or_true, true_or, or_false, false_or, if_true, if_false, ↓reduceIte, Decidable.not_not, ne_eq, Int32.reduceLE, Int32.reduceLT, pq_nes, eq_self, pq_c0 hR, pq_c1 hR, pq_in, pq_cl, h1, h2]
      · simp (disch := omega) only [f_X9_drinks, q9_isB hM hτ hV, q9_in, q9_ref, pq_m1 hM, hτ, q9_o1 hM, q9_o2 hM, pq_bd, pq_ck, pq_bx, rc_lt, pq_i10, pq_i01, not_false_eq_true, not_true_eq_false, and_self, and_true, true_and, and_false, false_and, or_true, true_or, or_false, false_or, if_true, if_false, ↓reduceIte, Decidable.not_not, ne_eq, Int32.reduceLE, Int32.reduceLT, pq_nes, eq_self, h1, h2]
    · have hp0 : p ≠ 0 := fun q => h2 (by rw [pq_v1 hV, q]; rfl)
      by_cases h3 : g 1 ≤ g (16 + 6 * b)
      · have z3 : p ≤ L := by rw [pq_v1 hV, e2] at h3; exact (pq_le (by omega) (by omega)).mp h3
        have hl0 : 0 ≤ (g (16 + 6 * b)).toInt := by rw [e2, pq_ti (by omega)]; omega
        obtain ⟨W, w1, w2, w3, ew⟩ := pq_hiN (g := g) (b := b) a1 a2 z3 (by omega) e1 e2
        rw [← pq_v1 hV] at ew
        have hB0 := pq_VB hV hb
        have hB : pq_vB (g 3) (g (15 + 6 * b)) (g (16 + 6 * b)) (g (17 + 6 * b)) (g (18 + 6 * b)) (g (19 + 6 * b)) (g (20 + 6 * b)) (Bd + 1) := ⟨hB0.1, hB0.2.1, ⟨hB0.2.2.1.1, by have := hB0.2.2.1.2; omega⟩, hB0.2.2.2⟩
        have hgo := pq_goV hB (pq_v3 hV).1 a1 a2 z3 (by omega) w1 w3 e1 e2 ew
        rw [← pq_v1 hV] at hgo
        obtain ⟨s1, f1, r1, q1⟩ := q0_go (rf := rf) hS hb8 hl0 (by unfold pq_lv; omega) (by unfold pq_lv; omega) (u := g 1)
        have lit : pq_go g b (g 1) (pq_hi g b (g 1)) (16 + 6 * b) = g (16 + 6 * b) - g 1 := by
          unfold pq_go
          split
          · rename_i hz; rw [hz]; exact pq_emE.1
          · simp (disch := omega) only [pq_udN, pq_udE]
        have s11 : s1 (x + 2 + 7 + b) 1 = g (16 + 6 * b) - g 1 := by
          have e := r1 (15 + 6 * b + 1) (by omega) (by unfold pq_lv; omega)
          rw [(pq_adb hb8 (by omega)).1, (pq_adb hb8 (by omega)).2, ← Nat.add_assoc, show 15 + 6 * b + 1 = 16 + 6 * b by omega, lit] at e; exact e
        have sc : s1 (x + 2) = σ (x + 2) := q1 _ (by omega)
        have gN : ∀ j, (j < 16 + 6 * b ∨ 21 + 6 * b ≤ j) → pq_go g b (g 1) (pq_hi g b (g 1)) j = g j := fun j hj => pq_goN j hj
        by_cases h5 : pq_ns g p (pq_P g b) = 0
        · refine Or.inr ⟨pq_N g b 0 * g 1, rc_up s1 (x + 2) 11 (g 8 + g 1), upd (pq_go g b (g 1) (pq_hi g b (g 1))) 8 (g 8 + g 1), n, p, ?_, ?_, fun a ha => by rw [pq_upN (by omega)]; exact q1 a (by omega), pq_SR (pq_Sc8 r1 _) h8 h4 (fun j hj hl => Or.inl hl), ?_, fun τ hτ => ?_⟩
          · have hvp : v * p ≤ 9 * 4 := Nat.mul_le_mul hv9 h4
            rw [ev, pq_v1 hV, ← Int32.ofNat_mul]; exact pq_nnN (by omega)
          · simp (disch := omega) only [f_X7_letPanelDrink, q1_has hR, q5_bec, pq_kb hK, pq_b1 hR, pq_b2 hR, pq_b3 hR, q0_empty, f_X0_room, f_X0_isFreeFor, pq_w0 hX, pq_w1 hX, pq_k0 hK, pq_k1 hK, pq_k3 hK, pq_k4 hK, pq_kp hK, pq_ks hK, pq_bd, pq_ck, pq_bx, rc_lt, pq_i10, pq_i01, not_false_eq_true, not_true_eq_false, and_self, and_true, true_and, and_false, false_and, or_true, true_or, or_false, false_or, if_true, if_false, ↓reduceIte, Decidable.not_not, ne_eq, Int32.reduceLE, Int32.reduceLT, pq_nes, eq_self, pq_c0 hR, pq_c1 hR, pq_in, pq_cl, h1, h2, h3, q1_note hR hV, q1_part hR hV hb, q_3_noses hK hR hV, h5, f1, pq_bd, sc, pq_c8 hR]
          · refine pq_Vn hV ⟨by rw [pq_udN (by omega), gN _ (by omega)]; exact pq_v0 hV, h8⟩ ⟨by rw [pq_udN (by omega), gN _ (by omega)]; exact pq_v1 hV, h4⟩ (Or.inl (by rw [pq_udN (by omega), gN _ (by omega)])) (Or.inl (by rw [pq_udN (by omega), gN _ (by omega)])) (Or.inl (by rw [pq_udN (by omega), gN _ (by omega)])) (fun r hr => Or.inl (by rw [pq_udN (by omega), gN _ (by omega)])) (fun b' hb' => ?_) (fun j hj => Or.inl ⟨hj, by rw [pq_udN (by omega), gN _ (by omega)], by rw [pq_udN (by omega), gN _ (by omega)]⟩)
            by_cases e : b' = b
            · subst e
              refine Or.inr ?_
              simp (disch := omega) only [pq_udN]
              rw [gN 3 (by omega)]
              exact hgo
            · exact Or.inl ⟨hb', fun k hk => by rw [pq_udN (by omega), gN _ (by omega)]⟩
          · obtain ⟨t1, u1, u2, u3⟩ := q9_go (σ := rc_up τ (x + 308 + 1) 8 (g 8 + g 1)) (u := g 1) (hl := pq_hi g b (g 1)) hM hb8
            refine ⟨rc_up t1 (x + 308) 17 (pq_N g b 0 * g 1), ?_, pq_fin ?_ (fun a ha => by rw [u3 a ha, pq_upN ha])⟩
            · simp (disch := omega) only [f_X9_drinks, q9_isB hM hτ hV, q9_in, q9_ref, pq_m1 hM, hτ, q9_o1 hM, q9_o2 hM, pq_bd, pq_ck, pq_bx, rc_lt, pq_i10, pq_i01, not_false_eq_true, not_true_eq_false, and_self, and_true, true_and, and_false, false_and, or_true, true_or, or_false, false_or, if_true, if_false, ↓reduceIte, Decidable.not_not, ne_eq, Int32.reduceLE, Int32.reduceLT, pq_nes, eq_self, h1, h2, h3, q9_part hM hτ hb8, q_9_noses hM hτ hV, h5, q9_note hM hτ hb8, q9_hi hM hb8, pq_upE, pq_hiU, u1, q9_don]
            · rw [u2, pq_upE, hτ, pq_goU 8 (by omega)]
        · have hz : ((0 : Int32) = 0) := rfl
          obtain ⟨s2, f2, r2, q2⟩ := q0_em (rf := rf) (b := b) (pq_Sc10 (pq_Sc9 (pq_Sc8 r1 (g 8 + g 1)) (g 9 + (g (16 + 6 * b) - g 1))) (g 10 + 1)) hb8
          have gE : pq_em (upd (upd (upd (pq_go g b (g 1) (pq_hi g b (g 1))) 8 (g 8 + g 1)) 9 (g 9 + (g (16 + 6 * b) - g 1))) 10 (g 10 + 1)) b = pq_em (upd (upd (upd g 8 (g 8 + g 1)) 9 (g 9 + (g (16 + 6 * b) - g 1))) 10 (g 10 + 1)) b := by
            refine pq_emC (fun j hj => ?_)
            simp only [upd]
            rw [gN j hj]
          rw [gE] at r2
          have eN : ∀ j, j ≠ 8 → j ≠ 9 → j ≠ 10 → (j < 16 + 6 * b ∨ 21 + 6 * b ≤ j) → pq_em (upd (upd (upd g 8 (g 8 + g 1)) 9 (g 9 + (g (16 + 6 * b) - g 1))) 10 (g 10 + 1)) b j = g j := fun j j1 j2 j3 hj => by rw [pq_emN j hj, pq_udN j3, pq_udN j2, pq_udN j1]
          refine Or.inr ⟨0, s2, pq_em (upd (upd (upd g 8 (g 8 + g 1)) 9 (g 9 + (g (16 + 6 * b) - g 1))) 10 (g 10 + 1)) b, n, p, by decide, ?_, fun a ha => by rw [q2 a (by omega), pq_upN (by omega), pq_upN (by omega), pq_upN (by omega)]; exact q1 a (by omega), pq_SR r2 h8 h4 (fun j hj hl => Or.inl (Or.inl (Or.inl hl))), ?_, fun τ hτ => ?_⟩
          · simp (disch := omega) only [f_X7_letPanelDrink, q1_has hR, q5_bec, pq_kb hK, pq_b1 hR, pq_b2 hR, pq_b3 hR, q0_empty, f_X0_room, f_X0_isFreeFor, pq_w0 hX, pq_w1 hX, pq_k0 hK, pq_k1 hK, pq_k3 hK, pq_k4 hK, pq_kp hK, pq_ks hK, pq_bd, pq_ck, pq_bx, rc_lt, pq_i10, pq_i01, not_false_eq_true, not_true_eq_false, and_self, and_true, true_and, and_false, false_and, or_true, true_or, or_false, false_or, if_true, if_false, ↓reduceIte, Decidable.not_not, ne_eq, Int32.reduceLE, Int32.reduceLT, pq_nes, eq_self, pq_c0 hR, pq_c1 hR, pq_in, pq_cl, h1, h2, h3, q1_note hR hV, q1_part hR hV hb, q_3_noses hK hR hV, if_neg h5, f1, pq_bd, sc, pq_c8 hR, pq_upE, pq_udN, pq_upN, s11, pq_c9 hR, pq_c10 hR, f2]
          · refine pq_Vn hV ⟨by rw [eN _ (by omega) (by omega) (by omega) (by omega)]; exact pq_v0 hV, h8⟩ ⟨by rw [eN _ (by omega) (by omega) (by omega) (by omega)]; exact pq_v1 hV, h4⟩ (Or.inl (by rw [eN _ (by omega) (by omega) (by omega) (by omega)])) (Or.inl (by rw [eN _ (by omega) (by omega) (by omega) (by omega)])) (Or.inl (by rw [eN _ (by omega) (by omega) (by omega) (by omega)])) (fun r hr => Or.inl (by rw [eN _ (by omega) (by omega) (by omega) (by omega)])) (fun b' hb' => ?_) (fun j hj => Or.inl ⟨hj, by rw [eN _ (by omega) (by omega) (by omega) (by omega)], by rw [eN _ (by omega) (by omega) (by omega) (by omega)]⟩)
            by_cases e : b' = b
            · subst e
              refine Or.inr ?_
              have z := pq_emE (g := upd (upd (upd g 8 (g 8 + g 1)) 9 (g 9 + (g (16 + 6 * b') - g 1))) 10 (g 10 + 1)) (b := b')
              rw [z.1, z.2.1, z.2.2.1, z.2.2.2.1, z.2.2.2.2, eN 3 (by omega) (by omega) (by omega) (by omega), eN (15 + 6 * b') (by omega) (by omega) (by omega) (by omega)]
              exact ⟨hB0.1, by decide, ⟨by decide, by rw [show (-1 : Int32).toInt = -1 from rfl]; omega⟩, by decide, ⟨by decide, by rw [Int32.toInt_zero]; exact (pq_v3 hV).1⟩, fun _ => ⟨rfl, rfl, rfl, rfl⟩, fun q => absurd rfl q⟩
            · exact Or.inl ⟨hb', fun k hk => by rw [eN _ (by omega) (by omega) (by omega) (by omega)]⟩
          · obtain ⟨t1, u1, u2, u3⟩ := q9_em (σ := rc_up (rc_up (rc_up τ (x + 308 + 1) 8 (g 8 + g 1)) (x + 308 + 1) 9 (g 9 + (g (16 + 6 * b) - g 1))) (x + 308 + 1) 10 (g 10 + 1)) hM hb8
            refine ⟨rc_up t1 (x + 308) 17 0, ?_, pq_fin ?_ (fun a ha => by rw [u3 a ha, pq_upN ha, pq_upN ha, pq_upN ha])⟩
            · simp (disch := omega) only [f_X9_drinks, q9_isB hM hτ hV, q9_in, q9_ref, pq_m1 hM, hτ, q9_o1 hM, q9_o2 hM, pq_bd, pq_ck, pq_bx, rc_lt, pq_i10, pq_i01, not_false_eq_true, not_true_eq_false, and_self, and_true, true_and, and_false, false_and, or_true, true_or, or_false, false_or, if_true, if_false, ↓reduceIte, Decidable.not_not, ne_eq, Int32.reduceLE, Int32.reduceLT, pq_nes, eq_self, h1, h2, h3, q9_part hM hτ hb8, q_9_noses hM hτ hV, if_neg h5, q9_note hM hτ hb8, pq_upE, pq_udN, u1, q9_don]
            · rw [u2]; simp only [pq_upE, hτ]
      · refine Or.inl ⟨6, g (16 + 6 * b), by decide, ?_, fun τ hτ => ?_⟩
        · simp (disch := omega) only [f_X7_letPanelDrink, q1_has hR, q5_bec, pq_kb hK, pq_b1 hR, pq_b2 hR, pq_b3 hR, q0_empty, f_X0_room, f_X0_isFreeFor, pq_w0 hX, pq_w1 hX, pq_k0 hK, pq_k1 hK, pq_k3 hK, pq_k4 hK, pq_kp hK, pq_ks hK, pq_bd, pq_ck, pq_bx, rc_lt, pq_i10, pq_i01, not_false_eq_true, not_true_eq_false, and_self, and_true, true_and, and_false, false_and, or_true, true_or, or_false, false_or, if_true, if_false, ↓reduceIte, Decidable.not_not, ne_eq, Int32.reduceLE, Int32.reduceLT, pq_nes, eq_self, pq_c0 hR, pq_c1 hR, pq_in, pq_cl, h1, h2, h3]
        · simp (disch := omega) only [f_X9_drinks, q9_isB hM hτ hV, q9_in, q9_ref, pq_m1 hM, hτ, q9_o1 hM, q9_o2 hM, pq_bd, pq_ck, pq_bx, rc_lt, pq_i10, pq_i01, not_false_eq_true, not_true_eq_false, and_self, and_true, true_and, and_false, false_and, or_true, true_or, or_false, false_or, if_true, if_false, ↓reduceIte, Decidable.not_not, ne_eq, Int32.reduceLE, Int32.reduceLT, pq_nes, eq_self, h1, h2, h3]
  · refine Or.inl ⟨3, g 0, by decide, ?_, fun τ hτ => ?_⟩
    · simp (disch := omega) only [f_X7_letPanelDrink, q1_has hR, q5_bec, pq_kb hK, pq_b1 hR, pq_b2 hR, pq_b3 hR, q0_empty, f_X0_room, f_X0_isFreeFor, pq_w0 hX, pq_w1 hX, pq_k0 hK, pq_k1 hK, pq_k3 hK, pq_k4 hK, pq_kp hK, pq_ks hK, pq_bd, pq_ck, pq_bx, rc_lt, pq_i10, pq_i01, not_false_eq_true, not_true_eq_false, and_self, and_true, true_and, and_false, false_and, or_true, true_or, or_false, false_or, if_true, if_false, ↓reduceIte, Decidable.not_not, ne_eq, Int32.reduceLE, Int32.reduceLT, pq_nes, eq_self, pq_c0 hR, pq_c1 hR, pq_in, pq_cl, if_neg h1]
    · simp (disch := omega) only [f_X9_drinks, q9_isB hM hτ hV, q9_in, q9_ref, pq_m1 hM, hτ, q9_o1 hM, q9_o2 hM, pq_bd, pq_ck, pq_bx, rc_lt, pq_i10, pq_i01, not_false_eq_true, not_true_eq_false, and_self, and_true, true_and, and_false, false_and, or_true, true_or, or_false, false_or, if_true, if_false, ↓reduceIte, Decidable.not_not, ne_eq, Int32.reduceLE, Int32.reduceLT, pq_nes, eq_self, if_neg h1]
end PQOP2
