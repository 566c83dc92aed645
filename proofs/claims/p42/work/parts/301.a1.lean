theorem pq_nes : ¬ (0 : Int32) = 1 ∧ ¬ (0 : Int32) = 2 ∧ ¬ (0 : Int32) = 3 ∧ ¬ (0 : Int32) = 4 ∧ ¬ (0 : Int32) = 5 ∧ ¬ (0 : Int32) = 6 ∧ ¬ (1 : Int32) = 0 ∧ ¬ (1 : Int32) = 2 ∧ ¬ (1 : Int32) = 3 ∧ ¬ (1 : Int32) = 4 ∧ ¬ (1 : Int32) = 5 ∧ ¬ (1 : Int32) = 6 ∧ ¬ (2 : Int32) = 0 ∧ ¬ (2 : Int32) = 1 ∧ ¬ (2 : Int32) = 3 ∧ ¬ (2 : Int32) = 4 ∧ ¬ (2 : Int32) = 5 ∧ ¬ (2 : Int32) = 6 ∧ ¬ (3 : Int32) = 0 ∧ ¬ (3 : Int32) = 1 ∧ ¬ (3 : Int32) = 2 ∧ ¬ (3 : Int32) = 4 ∧ ¬ (3 : Int32) = 5 ∧ ¬ (3 : Int32) = 6 ∧ ¬ (4 : Int32) = 0 ∧ ¬ (4 : Int32) = 1 ∧ ¬ (4 : Int32) = 2 ∧ ¬ (4 : Int32) = 3 ∧ ¬ (4 : Int32) = 5 ∧ ¬ (4 : Int32) = 6 ∧ ¬ (5 : Int32) = 0 ∧ ¬ (5 : Int32) = 1 ∧ ¬ (5 : Int32) = 2 ∧ ¬ (5 : Int32) = 3 ∧ ¬ (5 : Int32) = 4 ∧ ¬ (5 : Int32) = 6 ∧ ¬ (6 : Int32) = 0 ∧ ¬ (6 : Int32) = 1 ∧ ¬ (6 : Int32) = 2 ∧ ¬ (6 : Int32) = 3 ∧ ¬ (6 : Int32) = 4 ∧ ¬ (6 : Int32) = 5 := by decide
def pq_X (rf : rc_F) (x : Nat) : Prop :=
  (rf x 0 = x + 1 ∧ rf x 1 = x + 2 ∧ rf x 2 = x + 29 ∧ rf x 3 = x + 30 ∧ rf x 5 = x + 57 ∧ rf x 6 = x + 302 ∧ rf x 8 = x + 306) ∧ (rf (x + 1) 0 = x + 2 ∧ rf (x + 1) 1 = x + 29) ∧ (rf (x + 57) 0 = x + 58 ∧ ∀ j, j < 9 → rf (x + 58) j = x + 59 + 27 * j) ∧
  (rf (x + 302) 0 = x + 303 ∧ rf (x + 302) 2 = x + 304 ∧ rf (x + 302) 3 = x + 305) ∧ rf (x + 306) 0 = x + 307 ∧ pq_K rf (x + 2) ∧ pq_K rf (x + 30) ∧ ∀ j, j < 9 → pq_K rf (x + 59 + 27 * j)
section PQX
variable {rf : rc_F} {x : Nat}
theorem pq_x0 (h : pq_X rf x) : rf x 0 = x + 1 := h.1.1
theorem pq_x1 (h : pq_X rf x) : rf x 1 = x + 2 := h.1.2.1
theorem pq_x2 (h : pq_X rf x) : rf x 2 = x + 29 := h.1.2.2.1
theorem pq_x3 (h : pq_X rf x) : rf x 3 = x + 30 := h.1.2.2.2.1
theorem pq_x5 (h : pq_X rf x) : rf x 5 = x + 57 := h.1.2.2.2.2.1
theorem pq_x6 (h : pq_X rf x) : rf x 6 = x + 302 := h.1.2.2.2.2.2.1
theorem pq_x8 (h : pq_X rf x) : rf x 8 = x + 306 := h.1.2.2.2.2.2.2
theorem pq_w0 (h : pq_X rf x) : rf (x + 1) 0 = x + 2 := h.2.1.1
theorem pq_w1 (h : pq_X rf x) : rf (x + 1) 1 = x + 29 := h.2.1.2
theorem pq_h0 (h : pq_X rf x) : rf (x + 57) 0 = x + 58 := h.2.2.1.1
theorem pq_hj (h : pq_X rf x) {j : Nat} (hj : j < 9) : rf (x + 58) j = x + 59 + 27 * j := h.2.2.1.2 j hj
theorem pq_t0 (h : pq_X rf x) : rf (x + 302) 0 = x + 303 := h.2.2.2.1.1
theorem pq_t2 (h : pq_X rf x) : rf (x + 302) 2 = x + 304 := h.2.2.2.1.2.1
theorem pq_t3 (h : pq_X rf x) : rf (x + 302) 3 = x + 305 := h.2.2.2.1.2.2
theorem pq_b (h : pq_X rf x) : rf (x + 306) 0 = x + 307 := h.2.2.2.2.1
theorem pq_xk (h : pq_X rf x) : pq_K rf (x + 2) := h.2.2.2.2.2.1
theorem pq_xs (h : pq_X rf x) : pq_K rf (x + 30) := h.2.2.2.2.2.2.1
theorem pq_xh (h : pq_X rf x) {j : Nat} (hj : j < 9) : pq_K rf (x + 59 + 27 * j) := h.2.2.2.2.2.2.2 j hj
end PQX
theorem pq_uu {σ : rc_S} {a k : Nat} {x y : Int32} : rc_up (rc_up σ a k x) a k y = rc_up σ a k y := by
  funext b
  unfold rc_up
  by_cases h : b = a
  · subst h
    simp only [if_true]
    funext j
    simp only [upd]
    split <;> rfl
  · simp only [h, if_false]
theorem pq_i0 {u : Int32} (h : 0 ≤ u.toInt) : 0 ≤ u := by rw [Int32.le_iff_toInt_le]; exact h
theorem pq_i20 {u : Int32} (h : u.toInt ≤ 20) : u ≤ 20 := by rw [Int32.le_iff_toInt_le]; exact h
theorem pq_4 {u : Int32} (h : ¬ u < 0 ∧ ¬ 3 < u) : u = 0 ∨ u = 1 ∨ u = 2 ∨ u = 3 := by grind
theorem pq_3 {u : Int32} (h : ¬ u < 0 ∧ ¬ 2 < u) : u = 0 ∨ u = 1 ∨ u = 2 := by grind
theorem pq_4n {u : Int32} (h : ¬ (¬ u < 0 ∧ ¬ 3 < u)) : ¬ u = 0 ∧ ¬ u = 1 ∧ ¬ u = 2 ∧ ¬ u = 3 := by grind
theorem pq_3n {u : Int32} (h : ¬ (¬ u < 0 ∧ ¬ 2 < u)) : ¬ u = 0 ∧ ¬ u = 1 ∧ ¬ u = 2 := by grind
theorem pq_4b {u : Int32} (h : ¬ u < 0 ∧ ¬ 3 < u) : ∃ i, i < 4 ∧ u = Int32.ofNat i := pq_nat h.1 (show u < 4 by grind) (by decide)
theorem pq_mx {i : Nat} : (11 : Int32) + Int32.ofNat i = Int32.ofNat (11 + i) := by rw [Int32.ofNat_add]; rfl
theorem q8_out {rf : rc_F} {σ : rc_S} {u a b : Int32} : f_X8_isOutside rf u a b σ = some (if ¬ u < a ∧ ¬ b < u then 0 else 1, σ) := by
  unfold f_X8_isOutside
  by_cases h1 : u < a
  · simp [h1]
  · by_cases h2 : u ≤ b
    · simp [h1, h2, Int32.not_lt.mpr h2]
    · simp [h1, h2, Int32.not_le.mp h2]
section PQQ
variable {rf : rc_F} {σ : rc_S} {x : Nat} {g : Nat → Int32} {n p N b : Nat}
theorem pq_ub (hV : pq_V g n p N) {u : Int32} (hu : ¬ u < 0 ∧ u < g 0) : ∃ b, b < n ∧ u = Int32.ofNat b := by
  rw [pq_v0 hV] at hu
  exact pq_nat hu.1 hu.2 (by have := pq_vn hV; omega)
theorem pq_us (hV : pq_V g n p N) {u : Int32} (hu : ¬ u < 0 ∧ u < g 1) : ∃ b, b < p ∧ u = Int32.ofNat b := by
  rw [pq_v1 hV] at hu
  exact pq_nat hu.1 hu.2 (by have := pq_vp hV; omega)
theorem q8_ex0 (hX : pq_X rf x) (hR : pq_R σ (x + 2) g n p) {u : Int32} (hu : ¬ (¬ u < 0 ∧ u < g 0)) : f_X8_existing rf x u σ = some (2, 0, σ) := by
  simp only [f_X8_existing, pq_x1 hX, q1_has hR, pq_bd, pq_i10, if_pos hu]
theorem q8_ex (hX : pq_X rf x) (hR : pq_R σ (x + 2) g n p) (hV : pq_V g n p N) (hb : b < n) (hu : ¬ Int32.ofNat b < 0 ∧ Int32.ofNat b < g 0) : f_X8_existing rf x (Int32.ofNat b) σ = some (0, x + 2 + 7 + b, σ) := by
  have h8 := pq_vn hV
  simp only [f_X8_existing, pq_x1 hX, q1_has hR, pq_bd, pq_i10, if_neg (not_not_intro hu)]
  rw [pq_in (by omega) (by omega), pq_ck, pq_k1 (pq_xk hX), pq_cl (by omega), pq_kb (pq_xk hX) (by omega)]
theorem q8_fi (hX : pq_X rf x) (hR : pq_R σ (x + 2) g n p) (hV : pq_V g n p N) (hb : b < n) (hu : ¬ Int32.ofNat b < 0 ∧ Int32.ofNat b < g 0) : f_X8_filled rf x (Int32.ofNat b) σ = if g (16 + 6 * b) = 0 then some (4, 0, σ) else some (0, x + 2 + 7 + b, σ) := by
  rw [f_X8_filled, q8_ex hX hR hV hb hu, pq_bx, q0_empty, pq_bd, pq_b1 hR hb]
  by_cases h : g (16 + 6 * b) = 0
  · simp [h]
  · simp [h]
end PQQ

theorem pq_xor {a b : Int32} (ha : 0 ≤ a) (hb : 0 ≤ b) : 0 ≤ (a ^^^ b) := by
  rw [Int32.le_iff_toInt_le, Int32.toInt_zero] at *
  rw [← Int32.toInt_toBitVec] at *
  rw [Int32.toBitVec_xor]
  have h1 : a.toBitVec.msb = false := by rw [BitVec.msb_eq_toInt]; simp; exact ha
  have h2 : b.toBitVec.msb = false := by rw [BitVec.msb_eq_toInt]; simp; exact hb
  have h3 : (a.toBitVec ^^^ b.toBitVec).msb = false := by rw [BitVec.msb_xor, h1, h2]; rfl
  rw [BitVec.msb_eq_toInt] at h3
  simpa using h3
theorem pq_md {s k : Nat} (hk0 : 0 < k) (hs : s < 2147483648) (hk : k < 2147483648) : Int32.ofNat s - Int32.ofNat s / Int32.ofNat k * Int32.ofNat k = Int32.ofNat (s % k) := by
  rw [← Int32.ofNat_div hs hk, ← Int32.ofNat_mul, ← Int32.ofNat_sub _ _ (Nat.div_mul_le_self s k)]
  congr 1
  have := Nat.div_add_mod s k
  rw [Nat.mul_comm] at this
  omega
theorem pq_fm {rf : rc_F} {σ : rc_S} {s k : Nat} (hk0 : 0 < k) (hs : s < 2147483648) (hk : k < 2147483648) : f_J9_floorMod_7cf53 rf (Int32.ofNat s) (Int32.ofNat k) σ = some (Int32.ofNat (s % k), σ) := by
  have hz : ¬ Int32.ofNat k = 0 := fun q => by
    have := (pq_eq hk (show 0 < 2147483648 by decide)).mp q
    omega
  rw [f_J9_floorMod_7cf53, pq_cd hz, rc_lt, pq_md hk0 hs hk, if_pos (pq_xor (Int32.zero_le_ofNat_of_lt hs) (Int32.zero_le_ofNat_of_lt hk))]
theorem pq_fm12 {rf : rc_F} {σ : rc_S} {s : Nat} (hs : s < 2147483648) : f_J9_floorMod_7cf53 rf (Int32.ofNat s) 12 σ = some (Int32.ofNat (s % 12), σ) := pq_fm (by decide) hs (by decide)
theorem pq_fm9 {rf : rc_F} {σ : rc_S} {s : Nat} (hs : s < 2147483648) : f_J9_floorMod_7cf53 rf (Int32.ofNat s) 9 σ = some (Int32.ofNat (s % 9), σ) := pq_fm (by decide) hs (by decide)
theorem pq_md12 {s : Nat} (hs : s < 2147483648) : Int32.ofNat s - Int32.ofNat s / 12 * 12 = Int32.ofNat (s % 12) := pq_md (by decide) hs (by decide)
theorem pq_rx {q w : Nat} : (71 : Int32) + 3 * Int32.ofNat q + Int32.ofNat w = Int32.ofNat (71 + 3 * q + w) := by rw [Int32.ofNat_add, Int32.ofNat_add, Int32.ofNat_mul]; rfl
theorem pq_rx0 {q : Nat} : (71 : Int32) + 3 * Int32.ofNat q + 0 = Int32.ofNat (71 + 3 * q) := pq_rx (w := 0)
theorem pq_rx1 {q : Nat} : (71 : Int32) + 3 * Int32.ofNat q + 1 = Int32.ofNat (72 + 3 * q) := by rw [show 72 + 3 * q = 71 + 3 * q + 1 from by omega]; exact pq_rx (w := 1)
theorem pq_rx2 {q : Nat} : (71 : Int32) + 3 * Int32.ofNat q + 2 = Int32.ofNat (73 + 3 * q) := by rw [show 73 + 3 * q = 71 + 3 * q + 2 from by omega]; exact pq_rx (w := 2)
theorem pq_m12 {s : Nat} : s % 12 < 12 := Nat.mod_lt _ (by decide)
theorem pq_fdN {h : Nat → Int32} {n M : Nat} (hh : ∀ b, b < n → ∃ v, v ≤ M ∧ h b = Int32.ofNat v) : ∀ (d i : Nat) (acc : Int32) (A : Nat), acc = Int32.ofNat A → i + d = n → ∃ K, K ≤ A + M * d ∧ pq_fd (fun b a => a + h b) i d acc = Int32.ofNat K := by
  intro d
  induction d with
  | zero => intro i acc A ha _; exact ⟨A, by omega, ha⟩
  | succ d ih =>
    intro i acc A ha hi
    obtain ⟨v, hv, e⟩ := hh i (by omega)
    obtain ⟨K, hK, e2⟩ := ih (i + 1) (acc + h i) (A + v) (by rw [ha, e, Int32.ofNat_add]) (by omega)
    exact ⟨K, by rw [Nat.mul_succ]; omega, e2⟩
theorem pq_fdE {f h : Nat → Int32 → Int32} {n : Nat} (hh : ∀ b a, b < n → f b a = h b a) : ∀ (d i : Nat) (acc : Int32), i + d = n → pq_fd f i d acc = pq_fd h i d acc := by
  intro d
  induction d with
  | zero => intro i acc _; rfl
  | succ d ih => intro i acc hi; rw [pq_fd, pq_fd, hh i acc (by omega), ih (i + 1) _ (by omega)]
section PQQ4
variable {rf : rc_F} {σ : rc_S} {x : Nat} {g : Nat → Int32} {n p N b : Nat}

theorem q_8_ranked_19 (hX : pq_X rf x) (hR : pq_R σ (x + 2) g n p) (hV : pq_V g n p N) (me pl : Int32) (K : Int32 → rc_S → Option (Nat × Int32 × rc_S)) : ∀ (d fu i : Nat), i + d = n → f_X8_ranked_19 rf x me pl K (fu + d + 1) (Int32.ofNat i) σ = match (List.range' i d).find? (fun b => decide (pq_pl g n me b = pl)) with | some b => some (0, Int32.ofNat b, σ) | none => K (Int32.ofNat n) σ := by
  have hK := pq_xk hX
  have h8 := pq_vn hV
  intro d
  induction d with
  | zero =>
    intro fu i h
    have hi : i = n := by omega
    subst hi
    rw [f_X8_ranked_19]
    simp (disch := omega) only [pq_x1 hX, pq_c0 hR, pq_v0 hV, pq_le, Nat.le_refl, if_true, List.range'_zero, List.find?_nil]
  | succ d ih =>
    intro fu i h
    have hni : (n ≤ i) = False := by simp; omega
    rw [show fu + (d + 1) + 1 = (fu + d + 1) + 1 from rfl, f_X8_ranked_19]
    simp (disch := omega) only [pq_x1 hX, pq_c0 hR, pq_v0 hV, pq_le, hni, if_false, q_1_placeOf hK hR hV, pq_bd, rc_lt, pq_s, List.range'_succ, List.find?_cons]
    by_cases hc : pq_pl g n me i = pl
    · simp only [hc, if_true, decide_true]
    · simp only [hc, if_false, decide_false]
      exact ih fu (i + 1) (by omega)
end PQQ4

theorem pq_dn0 : ∀ a, a < 73 → ∀ b, b < 9 → b ≠ 0 → FP.ddiv (FP.i2d (Int32.ofNat a)) (FP.i2d (Int32.ofNat b)) &&& 0x7fffffffffffffff ≤ 0x7ff0000000000000 := by decide +kernel
theorem pq_prN {h l : Nat} (hh : h ≤ 1000) (hl : l ≤ 1000) : pq_part (Int32.ofNat h) (Int32.ofNat l) = Int32.ofNat (if l = 0 then 0 else 100 * h / l) := by
  unfold pq_part
  by_cases h0 : l = 0
  · subst h0; rfl
  · have e : ¬ Int32.ofNat l = 0 := fun q => h0 ((pq_eq (by omega) (show 0 < 2147483648 by decide)).mp q)
    rw [if_neg e, if_neg h0, Int32.ofNat_div (by omega) (by omega), Int32.ofNat_mul]
    rfl
theorem pq_p100 {h l : Nat} (hh : h ≤ l) : (if l = 0 then 0 else 100 * h / l) ≤ 100 := by
  by_cases h0 : l = 0
  · simp [h0]
  · rw [if_neg h0]
    exact Nat.div_le_of_le_mul (by rw [Nat.mul_comm l]; exact Nat.mul_le_mul_left 100 hh)
theorem pq_tsN {T A : Nat} (hT : T ≤ 9) (hA : A ≤ 1000000) : pq_tst (Int32.ofNat T) (Int32.ofNat A) = Int32.ofNat (if T + A / 2 ≤ 9 then T + A / 2 else 9) := by
  have e : Int32.ofNat T + Int32.ofNat A / 2 = Int32.ofNat (T + A / 2) := by
    rw [Int32.ofNat_add, Int32.ofNat_div (by omega) (by omega)]; rfl
  unfold pq_tst
  rw [e]
  show (if Int32.ofNat (T + A / 2) ≤ Int32.ofNat 9 then Int32.ofNat (T + A / 2) else Int32.ofNat 9) = _
  by_cases h : T + A / 2 ≤ 9
  · rw [if_pos h, if_pos ((pq_le (by omega) (show 9 < 2147483648 by decide)).mpr h)]
  · rw [if_neg h, if_neg (fun q => h ((pq_le (by omega) (show 9 < 2147483648 by decide)).mp q))]
theorem pq_ntN {v P : Nat} (hv : v ≤ 9) (hP : P ≤ 100) : Int32.ofNat v * (100 - Int32.ofNat P) / 100 = Int32.ofNat (v * (100 - P) / 100) := by
  have hb : v * (100 - P) ≤ 9 * 100 := Nat.mul_le_mul hv (by omega)
  rw [Int32.ofNat_div (by omega) (by omega), Int32.ofNat_mul, Int32.ofNat_sub _ _ hP]; rfl
section PQQ5
variable {rf : rc_F} {σ : rc_S} {c m x : Nat} {g : Nat → Int32} {n p N b : Nat}
/-- the numbers of a barrel, as natural numbers -/
theorem pq_bN (hV : pq_V g n p N) (hb : b < n) : ∃ H L T, H ≤ L ∧ L ≤ 20 ∧ T ≤ 9 ∧ g (17 + 6 * b) = Int32.ofNat H ∧ g (16 + 6 * b) = Int32.ofNat L ∧ g (19 + 6 * b) = Int32.ofNat T := by
  have a1 := pq_vh hV hb
  have a2 := pq_vt hV hb
  obtain ⟨L, hL, e1⟩ := pq_natL (n := 20) (Int.le_trans a1.1 a1.2.1) a1.2.2 (by decide)
  obtain ⟨H, hH, e2⟩ := pq_natL (n := 20) a1.1 (Int.le_trans a1.2.1 a1.2.2) (by decide)
  obtain ⟨T, hT, e3⟩ := pq_natL (n := 9) a2.1 a2.2 (by decide)
  refine ⟨H, L, T, ?_, hL, hT, e2, e1, e3⟩
  have := a1.2.1
  rw [e1, e2, pq_ti (by omega), pq_ti (by omega)] at this
  omega
theorem pq_aN (hV : pq_V g n p N) (hb : b < n) (hN : N ≤ 90000) : ∃ A, A ≤ N ∧ g 3 - g (20 + 6 * b) = Int32.ofNat A := by
  have a1 := pq_v3 hV
  have a2 := pq_vs hV hb
  obtain ⟨Y, hY, e1⟩ := pq_natL (n := N) a1.1 a1.2 (by omega)
  obtain ⟨S, hS, e2⟩ := pq_natL (n := N) a2.1 (Int.le_trans a2.2 a1.2) (by omega)
  have h1 := a2.2
  rw [e1, e2, pq_ti (by omega), pq_ti (by omega)] at h1
  exact ⟨Y - S, by omega, by rw [e1, e2, Int32.ofNat_sub _ _ (by omega)]⟩
theorem pq_PN (hV : pq_V g n p N) (hb : b < n) : ∃ P, P ≤ 100 ∧ pq_P g b = Int32.ofNat P := by
  obtain ⟨H, L, T, h1, h2, -, e1, e2, -⟩ := pq_bN hV hb
  exact ⟨_, pq_p100 h1, by rw [pq_P, e1, e2, pq_prN (by omega) (by omega)]⟩
theorem pq_N9 (hV : pq_V g n p N) (hN : N ≤ 90000) (hb : b < n) : ∃ v, v ≤ 9 ∧ pq_N g b 0 = Int32.ofNat v := by
  obtain ⟨H, L, T, h1, h2, h3, e1, e2, e3⟩ := pq_bN hV hb
  obtain ⟨A, hA, e4⟩ := pq_aN hV hb hN
  obtain ⟨P, hP, e5⟩ := pq_PN hV hb
  unfold pq_N pq_nt
  unfold pq_P at e5
  by_cases h0 : g (16 + 6 * b) = 0
  · rw [if_pos h0]; exact ⟨0, by omega, rfl⟩
  · rw [if_neg h0, e5, e4, e3, Int32.add_zero, pq_tsN h3 (by omega)]
    have hv : (if T + A / 2 ≤ 9 then T + A / 2 else 9) ≤ 9 := by split <;> omega
    rw [pq_ntN hv hP]
    refine ⟨_, ?_, rfl⟩
    refine Nat.div_le_of_le_mul ?_
    rw [Nat.mul_comm 100 9]
    exact Nat.mul_le_mul hv (by omega)

theorem q_8_mean_6 (hX : pq_X rf x) (hR : pq_R σ (x + 2) g n p) (hV : pq_V g n p N) (K : Int32 → Int32 → Int32 → rc_S → Option (Nat × UInt64 × rc_S)) : ∀ (d fu i : Nat) (a c : Int32), i + d = n → f_X8_meanNote_6 rf x K (fu + d + 1) a c (Int32.ofNat i) σ = K (pq_fd (fun b a => a + pq_N g b 0) i d a) (pq_fd (fun b a => if g (16 + 6 * b) = 0 then a else a + 1) i d c) (Int32.ofNat n) σ := by
  have h8 := pq_vn hV
  have hK := pq_xk hX
  intro d
  induction d with
  | zero =>
    intro fu i a c h
    have hi : i = n := by omega
    subst hi
    rw [f_X8_meanNote_6]
    simp (disch := omega) only [pq_x1 hX, pq_c0 hR, pq_v0 hV, pq_le, Nat.le_refl, if_true, pq_fd]
  | succ d ih =>
    intro fu i a c h
    have hni : (n ≤ i) = False := by simp; omega

    rw [show fu + (d + 1) + 1 = (fu + d + 1) + 1 from rfl, f_X8_meanNote_6]
    simp (disch := omega) only [pq_x1 hX, pq_c0 hR, pq_v0 hV, pq_le, hni, if_false, pq_in, pq_cl, pq_ck, pq_bd, rc_lt, pq_s, pq_fd, pq_k1 hK, pq_kb hK, q1_note hR hV, q0_empty, pq_b1 hR, pq_i10]
    by_cases hc : g (16 + 6 * i) = 0
    · rw [if_neg (not_not_intro hc), if_pos hc, Int32.add_zero, ih fu (i + 1) _ _ (by omega)]
    · rw [if_pos hc, if_neg hc, ih fu (i + 1) _ _ (by omega)]
theorem pq_cnt {f : Nat → Prop} {df : ∀ b, Decidable (f b)} : ∀ (d i : Nat) (acc : Int32) (A : Nat), acc = Int32.ofNat A → ∃ K, A ≤ K ∧ K ≤ A + d ∧ pq_fd (fun b a => if f b then a else a + 1) i d acc = Int32.ofNat K := by
  intro d
  induction d with
  | zero => intro i acc A ha; exact ⟨A, by omega, by omega, ha⟩
  | succ d ih =>
    intro i acc A ha
    by_cases hc : f i
    · obtain ⟨K, h1, h2, e⟩ := ih (i + 1) acc A ha
      exact ⟨K, h1, by omega, by rw [pq_fd, if_pos hc]; exact e⟩
    · obtain ⟨K, h1, h2, e⟩ := ih (i + 1) (acc + 1) (A + 1) (by rw [ha, pq_s])
      exact ⟨K, by omega, by omega, by rw [pq_fd, if_neg hc]; exact e⟩
theorem q0_yby {a : Nat} {T A : Nat} {K : Int32 → Int32 → rc_S → Option (Int32 × rc_S)} (hT : T ≤ 9) (hA : A ≤ 90000) : ∀ (d fu i : Nat), i + d = A → f_X0_noteYearByYear_7 rf a (Int32.ofNat A) K (fu + d + 1) (Int32.ofNat (if T + i / 2 ≤ 9 then T + i / 2 else 9)) (Int32.ofNat (i + 1)) σ = K (Int32.ofNat (if T + A / 2 ≤ 9 then T + A / 2 else 9)) (Int32.ofNat (A + 1)) σ := by
  intro d
  induction d with
  | zero =>
    intro fu i h
    have hi : i = A := by omega
    subst hi
    rw [f_X0_noteYearByYear_7, if_pos ((pq_lt (by omega) (by omega)).mpr (by omega))]
  | succ d ih =>
    intro fu i h
    rw [show fu + (d + 1) + 1 = (fu + d + 1) + 1 from rfl, f_X0_noteYearByYear_7, if_neg (fun q => by have := (pq_lt (by omega) (by omega)).mp q; omega)]
    have hm : Int32.ofNat (i + 1) - Int32.ofNat (i + 1) / 2 * 2 = Int32.ofNat ((i + 1) % 2) := pq_md (by decide) (by omega) (by decide)
    rw [hm]
    by_cases h2 : (i + 1) % 2 = 0
    · rw [if_pos (by rw [h2]; rfl)]
      by_cases h9 : T + i / 2 ≤ 9
      · rw [if_pos h9]
        by_cases h8 : 9 ≤ T + i / 2
        · rw [if_pos (show (9 : Int32) ≤ Int32.ofNat (T + i / 2) from (pq_le (show 9 < 2147483648 by decide) (by omega)).mpr h8), rc_lt, pq_s]
          have := ih fu (i + 1) (by omega)
          rw [if_neg (show ¬ T + (i + 1) / 2 ≤ 9 by omega)] at this
          rw [show T + i / 2 = 9 by omega]
          exact this
        · rw [if_neg (show ¬ (9 : Int32) ≤ Int32.ofNat (T + i / 2) from fun q => h8 ((pq_le (show 9 < 2147483648 by decide) (by omega)).mp q)), rc_lt, rc_lt, pq_s, pq_s]
          have := ih fu (i + 1) (by omega)
          rw [if_pos (show T + (i + 1) / 2 ≤ 9 by omega)] at this
          rw [show T + i / 2 + 1 = T + (i + 1) / 2 by omega]
          exact this
      · rw [if_neg h9, if_pos (show (9 : Int32) ≤ Int32.ofNat 9 by decide), rc_lt, pq_s]
        have := ih fu (i + 1) (by omega)
        rw [if_neg (show ¬ T + (i + 1) / 2 ≤ 9 by omega)] at this
        exact this
    · rw [if_neg (show ¬ Int32.ofNat ((i + 1) % 2) = 0 from fun q => h2 ((pq_eq (by omega) (show 0 < 2147483648 by decide)).mp q)), rc_lt, pq_s]
      have := ih fu (i + 1) (by omega)
      rw [show (i + 1) / 2 = i / 2 by omega] at this
      exact this
end PQQ5

theorem pq_le4 {i : Nat} (h : i < 2147483648) : ((4 : Int32) ≤ Int32.ofNat i) = (4 ≤ i) := propext (pq_le (n := 4) (by decide) h)
theorem pq_le8 {i : Nat} (h : i < 2147483648) : ((8 : Int32) ≤ Int32.ofNat i) = (8 ≤ i) := propext (pq_le (n := 8) (by decide) h)
theorem pq_le12 {i : Nat} (h : i < 2147483648) : ((12 : Int32) ≤ Int32.ofNat i) = (12 ≤ i) := propext (pq_le (n := 12) (by decide) h)
theorem pq_or0 {a b : Int32} : (a ||| b) = 0 ↔ a = 0 ∧ b = 0 := by
  rw [← Int32.toBitVec_inj, ← Int32.toBitVec_inj, ← Int32.toBitVec_inj, Int32.toBitVec_or]
  exact BitVec.or_eq_zero_iff
theorem pq_sh : ∀ j, j < 4 → ¬ ((1 : Int32) <<< ((Int32.ofNat j) &&& 31)) = 0 := by decide
def pq_U (g : Nat → Int32) (p : Nat) (v : Int32) : Prop := ∀ j, j < p → ¬ (¬ v ≤ 0 ∧ ¬ v ≤ 50 - 5 * (g (63 + 2 * j) + 2 * g (64 + 2 * j)))
theorem pq_ns0 {g : Nat → Int32} {v : Int32} {p : Nat} (hp : p ≤ 4) : ∀ (d i : Nat) (acc : Int32), i + d = p → (pq_fd (fun j a => if ¬ v ≤ 0 ∧ ¬ v ≤ 50 - 5 * (g (63 + 2 * j) + 2 * g (64 + 2 * j)) then a ||| ((1 : Int32) <<< ((Int32.ofNat j) &&& 31)) else a) i d acc = 0 ↔ acc = 0 ∧ ∀ j, i ≤ j → j < p → ¬ (¬ v ≤ 0 ∧ ¬ v ≤ 50 - 5 * (g (63 + 2 * j) + 2 * g (64 + 2 * j)))) := by
  intro d
  induction d with
  | zero =>
    intro i acc h
    rw [pq_fd]
    exact ⟨fun q => ⟨q, fun j h1 h2 => by omega⟩, fun q => q.1⟩
  | succ d ih =>
    intro i acc h
    rw [pq_fd, ih (i + 1) _ (by omega)]
    by_cases hc : ¬ v ≤ 0 ∧ ¬ v ≤ 50 - 5 * (g (63 + 2 * i) + 2 * g (64 + 2 * i))
    · rw [if_pos hc, pq_or0]
      constructor
      · intro q; exact absurd q.1.2 (pq_sh i (by omega))
      · intro q; exact absurd hc (q.2 i (by omega) (by omega))
    · rw [if_neg hc]
      constructor
      · intro q
        refine ⟨q.1, fun j h1 h2 => ?_⟩
        by_cases hj : j = i
        · subst hj; exact hc
        · exact q.2 j (by omega) h2
      · intro q; exact ⟨q.1, fun j h1 h2 => q.2 j (by omega) h2⟩
theorem pq_nsU {g : Nat → Int32} {v : Int32} {p : Nat} (hp : p ≤ 4) : pq_ns g p v = 0 ↔ pq_U g p v := by
  unfold pq_ns pq_U
  rw [pq_ns0 hp p 0 0 (by omega)]
  exact ⟨fun q j h => q.2 j (Nat.zero_le _) h, fun q => ⟨rfl, fun j _ h => q j h⟩⟩
/-- the hail's part grows with more hail -/
theorem pq_mono : ∀ l, l < 21 → ∀ h, h < 21 → h ≤ l → ∀ k, k < 21 → 0 < l → 100 * (h + k) / (l + k) ≤ 100 * (h + k + 1) / (l + k + 1) := by
  intro l hl h hh hhl k hk h0
  rw [Nat.le_div_iff_mul_le (by omega)]
  have e := Nat.div_mul_le_self (100 * (h + k)) (l + k)
  have e2 : 100 * (h + k) / (l + k) ≤ 100 := Nat.div_le_of_le_mul (by rw [Nat.mul_comm (l + k)]; exact Nat.mul_le_mul_left 100 (by omega))
  have e3 : 100 * (h + k) / (l + k) * (l + k + 1) = 100 * (h + k) / (l + k) * (l + k) + 100 * (h + k) / (l + k) := by rw [Nat.mul_succ]
  omega
section PQQ6
variable {rf : rc_F} {σ : rc_S} {c m x : Nat} {g : Nat → Int32} {n p N b : Nat}
/-- the part with k litres of hail more -/
def pq_pk (g : Nat → Int32) (b k : Nat) : Int32 := pq_part (g (17 + 6 * b) + Int32.ofNat k) (g (16 + 6 * b) + Int32.ofNat k)
theorem pq_pkm (hV : pq_V g n p N) (hb : b < n) (h2 : g (16 + 6 * b) ≠ 0) {k : Nat} (hk : k < 21) : pq_pk g b k ≤ pq_pk g b (k + 1) := by
  obtain ⟨H, L, T, a1, a2, -, e1, e2, -⟩ := pq_bN hV hb
  have hL : L ≠ 0 := fun q => h2 (by rw [e2, q]; rfl)
  unfold pq_pk
  rw [e1, e2, ← Int32.ofNat_add, ← Int32.ofNat_add, ← Int32.ofNat_add, ← Int32.ofNat_add, pq_prN (by omega) (by omega), pq_prN (by omega) (by omega), if_neg (by omega), if_neg (by omega)]
  have b1 : 100 * (H + k) / (L + k) ≤ 100 := Nat.div_le_of_le_mul (by rw [Nat.mul_comm (L + k)]; exact Nat.mul_le_mul_left 100 (by omega))
  have b2 : 100 * (H + (k + 1)) / (L + (k + 1)) ≤ 100 := Nat.div_le_of_le_mul (by rw [Nat.mul_comm (L + (k + 1))]; exact Nat.mul_le_mul_left 100 (by omega))
  rw [pq_le (by omega) (by omega)]
  exact pq_mono L (by omega) H (by omega) a1 k hk (by omega)
theorem pq_Um {v v' : Int32} (h : v ≤ v') (hU : pq_U g p v') : pq_U g p v := by
  intro j hj q
  refine hU j hj ⟨fun z => q.1 (Int32.le_trans h z), fun z => q.2 (Int32.le_trans h z)⟩
theorem pq_pk0 : pq_pk g b 0 = pq_P g b := by
  unfold pq_pk pq_P
  rw [show Int32.ofNat 0 = (0 : Int32) from rfl, Int32.add_zero, Int32.add_zero]
/-- the most that is not noticed -/
theorem pq_top (g : Nat → Int32) (p b : Nat) (h0 : pq_U g p (pq_pk g b 0)) : ∀ M : Nat, ∃ D, D ≤ M ∧ pq_U g p (pq_pk g b D) ∧ ∀ k, D < k → k ≤ M → ¬ pq_U g p (pq_pk g b k) := by
  intro M
  induction M with
  | zero => exact ⟨0, by omega, h0, fun k h1 h2 => by omega⟩
  | succ M ih =>
    obtain ⟨D, d1, d2, d3⟩ := ih
    by_cases hc : pq_U g p (pq_pk g b (M + 1))
    · exact ⟨M + 1, by omega, hc, fun k h1 h2 => by omega⟩
    · refine ⟨D, by omega, d2, fun k h1 h2 => ?_⟩
      by_cases hk : k = M + 1
      · subst hk; exact hc
      · exact d3 k h1 (by omega)
theorem q1_partk (hR : pq_R σ c g n p) (hV : pq_V g n p N) (hb : b < n) {k : Nat} (hk : k < 100) : f_X0_hailPartWith rf (c + 7 + b) (Int32.ofNat k) σ = some (pq_pk g b k, σ) := by
  obtain ⟨H, L, T, a1, a2, -, e1, e2, -⟩ := pq_bN hV hb
  rw [q0_partW (by rw [pq_b1 hR hb, e2, ← Int32.ofNat_add, pq_ti (by omega)]; omega), pq_b1 hR hb, pq_b2 hR hb]; rfl
theorem pq_dec {k : Nat} (h : 0 < k) : Int32.ofNat k + -1 = Int32.ofNat (k - 1) := by
  rw [Int32.ofNat_sub _ _ h, Int32.sub_eq_add_neg]; rfl
theorem q8_hid (hX : pq_X rf x) (hR : pq_R σ (x + 2) g n p) (hV : pq_V g n p N) (hb : b < n) {K : Int32 → rc_S → Option (Nat × Int32 × rc_S)} (hK0 : K 0 σ = some (0, 0, σ)) {D M : Nat} (hM : M ≤ 20) (dU : pq_U g p (pq_pk g b D)) (dN : ∀ k, D < k → k ≤ M → ¬ pq_U g p (pq_pk g b k)) : ∀ (i fu : Nat), D ≤ i → i ≤ M → f_X8_hidden_15 rf x (x + 2 + 7 + b) K (fu + i + 1) (Int32.ofNat i) σ = some (0, Int32.ofNat D, σ) := by
  have hKk := pq_xk hX
  have h4 := pq_vp hV
  intro i
  induction i with
  | zero =>
    intro fu h1 h2
    rw [f_X8_hidden_15, if_pos (show Int32.ofNat 0 ≤ 0 by decide), show Int32.ofNat 0 = (0 : Int32) from rfl, hK0, show D = 0 by omega]; rfl
  | succ i ih =>
    intro fu h1 h2
    have hp : ¬ Int32.ofNat (i + 1) ≤ 0 := fun q => by have := (pq_le (by omega) (show 0 < 2147483648 by decide)).mp q; omega
    rw [show fu + (i + 1) + 1 = (fu + i + 1) + 1 from rfl, f_X8_hidden_15, if_neg hp, q1_partk hR hV hb (by omega), pq_bd, pq_x1 hX, pq_k3 hKk, q_3_noses hKk hR hV, pq_bd]
    by_cases hc : pq_U g p (pq_pk g b (i + 1))
    · have hD : D = i + 1 := by
        by_cases hD : D = i + 1
        · exact hD
        · exact absurd hc (dN (i + 1) (by omega) h2)
      rw [if_pos ((pq_nsU h4).mpr hc), hD]
    · have hD : D ≠ i + 1 := fun q => hc (by rw [← q]; exact dU)
      rw [if_neg (fun q => hc ((pq_nsU h4).mp q)), rc_lt, pq_dec (by omega)]
      exact ih fu (by omega) (by omega)
/-- the best palate notices what anyone notices -/
theorem pq_bst (hV : pq_V g n p N) {v : Int32} : ∀ (d i : Nat) (acc : Int32), i + d = p → 0 ≤ acc → acc ≤ 11 → (¬ v ≤ 0 → (acc = 0 ∨ ∃ j, j < i ∧ acc = g (63 + 2 * j) + 2 * g (64 + 2 * j))) → (∀ j, j < i → g (63 + 2 * j) + 2 * g (64 + 2 * j) ≤ acc) →
    0 ≤ pq_fd (fun j a => if a < g (63 + 2 * j) + 2 * g (64 + 2 * j) then g (63 + 2 * j) + 2 * g (64 + 2 * j) else a) i d acc ∧ pq_fd (fun j a => if a < g (63 + 2 * j) + 2 * g (64 + 2 * j) then g (63 + 2 * j) + 2 * g (64 + 2 * j) else a) i d acc ≤ 11 ∧
    (¬ v ≤ 0 → (pq_fd (fun j a => if a < g (63 + 2 * j) + 2 * g (64 + 2 * j) then g (63 + 2 * j) + 2 * g (64 + 2 * j) else a) i d acc = 0 ∨ ∃ j, j < p ∧ pq_fd (fun j a => if a < g (63 + 2 * j) + 2 * g (64 + 2 * j) then g (63 + 2 * j) + 2 * g (64 + 2 * j) else a) i d acc = g (63 + 2 * j) + 2 * g (64 + 2 * j))) ∧
    (∀ j, j < p → g (63 + 2 * j) + 2 * g (64 + 2 * j) ≤ pq_fd (fun j a => if a < g (63 + 2 * j) + 2 * g (64 + 2 * j) then g (63 + 2 * j) + 2 * g (64 + 2 * j) else a) i d acc) := by
  intro d
  induction d with
  | zero =>
    intro i acc h a0 a1 a2 a3
    have hi : i = p := by omega
    subst hi
    exact ⟨a0, a1, a2, a3⟩
  | succ d ih =>
    intro i acc h a0 a1 a2 a3
    rw [pq_fd]
    have v1 := pq_vpp hV (show i < p by omega)
    have v2 := pq_vps hV (show i < p by omega)
    have hp : 0 ≤ g (63 + 2 * i) + 2 * g (64 + 2 * i) ∧ g (63 + 2 * i) + 2 * g (64 + 2 * i) ≤ 11 := by
      have w1 := pq_i0 v1.1
      have w2 : g (63 + 2 * i) ≤ 9 := by rw [Int32.le_iff_toInt_le]; exact v1.2
      rcases v2 with e | e <;> rw [e] <;> constructor <;> grind
    by_cases hc : acc < g (63 + 2 * i) + 2 * g (64 + 2 * i)
    · simp only [if_pos hc]
      refine ih (i + 1) _ (by omega) hp.1 hp.2 (fun _ => Or.inr ⟨i, by omega, rfl⟩) (fun j hj => ?_)
      by_cases e : j = i
      · subst e; exact Int32.le_refl _
      · exact Int32.le_trans (a3 j (by omega)) (Int32.le_of_lt hc)
    · simp only [if_neg hc]
      refine ih (i + 1) _ (by omega) a0 a1 (fun hv => ?_) (fun j hj => ?_)
      · rcases a2 hv with e | ⟨j, h1, h2⟩
        · exact Or.inl e
        · exact Or.inr ⟨j, by omega, h2⟩
      · by_cases e : j = i
        · subst e; exact Int32.not_lt.mp hc
        · exact a3 j (by omega)
theorem q3_best (hK : pq_K rf c) (hR : pq_R σ c g n p) (hV : pq_V g n p N) {v : Int32} : ∃ r, f_X3_doesBestNotice rf (c + 3) v σ = some (r, σ) ∧ (r = 0 ↔ pq_U g p v) := by
  have h4 := pq_vp hV
  have hl := fun (K : Int32 → Int32 → rc_S → Option (Int32 × rc_S)) => q_3_best_4 hK hR hV v K p (99999 - p) 0 0 (by omega)
  rw [← pq_fu p (by omega), show Int32.ofNat 0 = (0 : Int32) from rfl] at hl
  obtain ⟨b0, b1, b2, b3⟩ := pq_bst hV (v := v) p 0 0 (by omega) (by decide) (by decide) (fun _ => Or.inl rfl) (fun j hj => by omega)
  generalize pq_fd (fun j a => if a < g (63 + 2 * j) + 2 * g (64 + 2 * j) then g (63 + 2 * j) + 2 * g (64 + 2 * j) else a) 0 p 0 = B at hl b0 b1 b2 b3
  rw [f_X3_doesBestNotice, hl]
  by_cases hp : p = 0
  · subst hp
    refine ⟨0, ?_, iff_of_true rfl (fun j hj => by omega)⟩
    rw [pq_c1 hR, pq_v1 hV, if_pos (show Int32.ofNat 0 ≤ 0 by decide)]
  · have hz : ¬ Int32.ofNat p ≤ 0 := fun q => by have := (pq_le (by omega) (show 0 < 2147483648 by decide)).mp q; omega
    rw [pq_c1 hR, pq_v1 hV, if_neg hz, f_X3_doesPalateNotice]
    by_cases hv : v ≤ 0
    · refine ⟨0, ?_, iff_of_true rfl (fun j hj q => q.1 hv)⟩
      rw [if_pos hv, pq_bd, if_pos rfl]
    · by_cases hv2 : v ≤ 50 - 5 * B
      · refine ⟨0, ?_, iff_of_true rfl (fun j hj q => q.2 ?_)⟩
        · rw [if_neg hv, if_pos hv2, pq_bd, if_pos rfl]
        · have v1 := pq_vpp hV hj
          have v2 := pq_vps hV hj
          have w1 := pq_i0 v1.1
          have w2 : g (63 + 2 * j) ≤ 9 := by rw [Int32.le_iff_toInt_le]; exact v1.2
          have w3 := b3 j hj
          rcases v2 with e | e <;> rw [e] at w3 ⊢ <;> grind
      · refine ⟨1, ?_, iff_of_false (by decide) (fun q => ?_)⟩
        · rw [if_neg hv, if_neg hv2, pq_bd, if_neg (by decide)]
        · rcases b2 hv with e | ⟨j, hj, e⟩
          · refine q 0 (by omega) ⟨hv, fun z => hv2 ?_⟩
            have v1 := pq_vpp hV (show 0 < p by omega)
            have v2 := pq_vps hV (show 0 < p by omega)
            have w1 := pq_i0 v1.1
            have w2 : g (63 + 2 * 0) ≤ 9 := by rw [Int32.le_iff_toInt_le]; exact v1.2
            have w3 := b3 0 (by omega)
            rw [e] at w3 ⊢
            rcases v2 with e2 | e2 <;> rw [e2] at w3 z <;> grind
          · exact q j hj ⟨hv, fun z => hv2 (by rw [e]; exact z)⟩
theorem q8_hidA (hX : pq_X rf x) (hR : pq_R σ (x + 2) g n p) (hV : pq_V g n p N) (hb : b < n) (h2 : g (16 + 6 * b) ≠ 0) {K : Int32 → rc_S → Option (Nat × Int32 × rc_S)} {D M : Nat} (hM : M ≤ 20) (hD : D ≤ M) (dU : pq_U g p (pq_pk g b D)) (dN : ∀ k, D < k → k ≤ M → ¬ pq_U g p (pq_pk g b k)) : ∀ (d i fu : Nat), i + d = D → f_X8_hiddenAgain_18 rf x (x + 2 + 7 + b) (Int32.ofNat M) K (fu + d + 1) (Int32.ofNat i) σ = K (Int32.ofNat D) σ := by
  have hKk := pq_xk hX
  intro d
  induction d with
  | zero =>
    intro i fu h1
    have hi : i = D := by omega
    subst hi
    rw [f_X8_hiddenAgain_18]
    by_cases he : M ≤ i
    · rw [if_pos ((pq_le (by omega) (by omega)).mpr he)]
    · obtain ⟨r, hr, hr2⟩ := q3_best (rf := rf) hKk hR hV (v := pq_pk g b (i + 1))
      rw [if_neg (fun q => he ((pq_le (by omega) (by omega)).mp q)), pq_s, q1_partk hR hV hb (by omega), pq_bd, pq_x1 hX, pq_k3 hKk, hr, pq_bd, if_neg (fun q => dN (i + 1) (by omega) (by omega) (hr2.mp q))]
  | succ d ih =>
    intro i fu h1
    have hU : ∀ k e, k + e = D → pq_U g p (pq_pk g b k) := by
      intro k e
      induction e generalizing k with
      | zero => intro hk; rw [show k = D by omega]; exact dU
      | succ e ihe => intro hk; exact pq_Um (pq_pkm hV hb h2 (by omega)) (ihe (k + 1) (by omega))
    obtain ⟨r, hr, hr2⟩ := q3_best (rf := rf) hKk hR hV (v := pq_pk g b (i + 1))
    rw [show fu + (d + 1) + 1 = (fu + d + 1) + 1 from rfl, f_X8_hiddenAgain_18, if_neg (fun q => by have := (pq_le (by omega) (by omega)).mp q; omega), pq_s, q1_partk hR hV hb (by omega), pq_bd, pq_x1 hX, pq_k3 hKk, hr, pq_bd, if_pos (hr2.mpr (hU (i + 1) d (by omega))), rc_lt]
    exact ih (i + 1) fu (by omega)

def pq_ca (g : Nat → Int32) (r : Int32) : Nat → Int32 → Int32 := fun b a => if g (15 + 6 * b) = r ∧ g (16 + 6 * b) = 0 then (if a ≤ 20 then 0 else a - 20) else a
/-- what is caught: as much as comes, but no more than the empty barrels hold -/
theorem pq_cae {r : Int32} (W : Nat) (hW : W ≤ 1000) : ∀ (d i E : Nat), ∃ E', E ≤ E' ∧ E' ≤ E + d ∧ pq_fd (fun b a => if g (15 + 6 * b) = r ∧ g (16 + 6 * b) = 0 then a + 1 else a) i d (Int32.ofNat E) = Int32.ofNat E' ∧ pq_fd (pq_ca g r) i d (Int32.ofNat (W - 20 * E)) = Int32.ofNat (W - 20 * E') := by
  intro d
  induction d with
  | zero => intro i E; exact ⟨E, by omega, by omega, rfl, rfl⟩
  | succ d ih =>
    intro i E
    by_cases hc : g (15 + 6 * i) = r ∧ g (16 + 6 * i) = 0
    · obtain ⟨E', h1, h2, h3, h4⟩ := ih (i + 1) (E + 1)
      refine ⟨E', by omega, by omega, ?_, ?_⟩
      · rw [pq_fd, if_pos hc, pq_s, h3]
      · rw [pq_fd, pq_ca, if_pos hc, ← h4]
        congr 1
        by_cases h5 : W - 20 * E ≤ 20
        · rw [if_pos (show Int32.ofNat (W - 20 * E) ≤ 20 from (pq_le (by omega) (show 20 < 2147483648 by decide)).mpr h5), show W - 20 * (E + 1) = 0 by omega]; rfl
        · rw [if_neg (show ¬ Int32.ofNat (W - 20 * E) ≤ 20 from fun q => h5 ((pq_le (by omega) (show 20 < 2147483648 by decide)).mp q)), show W - 20 * (E + 1) = W - 20 * E - 20 by omega, Int32.ofNat_sub (W - 20 * E) 20 (by omega)]; rfl
    · obtain ⟨E', h1, h2, h3, h4⟩ := ih (i + 1) E
      refine ⟨E', by omega, by omega, ?_, ?_⟩
      · rw [pq_fd, if_neg hc, h3]
      · rw [pq_fd, pq_ca, if_neg hc, h4]
def pq_cg (g : Nat → Int32) (n : Nat) (s : Int32) (r : Nat) : Int32 := (Int32.ofNat r + 1) * s - pq_fd (pq_ca g (Int32.ofNat r)) 0 n ((Int32.ofNat r + 1) * s)
theorem pq_9 {u : Int32} (h : ¬ u < 1 ∧ ¬ 9 < u) : ∃ s, 1 ≤ s ∧ s ≤ 9 ∧ u = Int32.ofNat s := by
  have a : ¬ u < 0 := by grind
  have b : u < Int32.ofNat 10 := by show u < 10; grind
  obtain ⟨s, hs, e⟩ := pq_nat a b (by decide)
  refine ⟨s, ?_, by omega, e⟩
  by_cases h0 : s = 0
  · subst h0; subst e; exact absurd (by decide) h.1
  · omega
/-- one roof, both ways -/
theorem pq_cg2 (hV : pq_V g n p N) {r s : Nat} (hr : r < 4) (hs : s ≤ 9) : (if 20 * pq_fd (fun b a => if g (15 + 6 * b) = Int32.ofNat r ∧ g (16 + 6 * b) = 0 then a + 1 else a) 0 n 0 < (Int32.ofNat r + 1) * Int32.ofNat s then 20 * pq_fd (fun b a => if g (15 + 6 * b) = Int32.ofNat r ∧ g (16 + 6 * b) = 0 then a + 1 else a) 0 n 0 else (Int32.ofNat r + 1) * Int32.ofNat s) = pq_cg g n (Int32.ofNat s) r := by
  have h8 := pq_vn hV
  have hb : (r + 1) * s ≤ 4 * 9 := Nat.mul_le_mul (by omega) hs
  have e : (Int32.ofNat r + 1) * Int32.ofNat s = Int32.ofNat ((r + 1) * s) := by rw [pq_s, Int32.ofNat_mul]
  obtain ⟨E, h1, h2, h3, h4⟩ := pq_cae (g := g) (r := Int32.ofNat r) ((r + 1) * s) (by omega) n 0 0
  rw [show Int32.ofNat 0 = (0 : Int32) from rfl] at h3
  rw [show (r + 1) * s - 20 * 0 = (r + 1) * s by omega] at h4
  unfold pq_cg
  rw [e, h3, h4, ← Int32.ofNat_sub _ _ (by omega), show (20 : Int32) * Int32.ofNat E = Int32.ofNat (20 * E) by rw [Int32.ofNat_mul]; rfl]
  by_cases hc : 20 * E < (r + 1) * s
  · rw [if_pos ((pq_lt (by omega) (by omega)).mpr hc), show (r + 1) * s - ((r + 1) * s - 20 * E) = 20 * E by omega]
  · rw [if_neg (fun q => hc ((pq_lt (by omega) (by omega)).mp q)), show (r + 1) * s - ((r + 1) * s - 20 * E) = (r + 1) * s by omega]
theorem q1_into (hK : pq_K rf c) (hR : pq_R σ c g n p) (hV : pq_V g n p N) {s : Nat} (hs : s ≤ 9) (K : Int32 → Int32 → rc_S → Option (Int32 × rc_S)) : ∀ (d fu i : Nat) (acc : Int32), i + d = 4 → f_X1_litresIntoBarrels_4 rf c (Int32.ofNat s) K (fu + d + 1) acc (Int32.ofNat i) σ = K (pq_fd (fun r a => a + pq_cg g n (Int32.ofNat s) r) i d acc) (Int32.ofNat 4) σ := by
  intro d
  induction d with
  | zero =>
    intro fu i acc h
    have hi : i = 4 := by omega
    subst hi
    rw [f_X1_litresIntoBarrels_4, if_pos (by decide), pq_fd]
  | succ d ih =>
    intro fu i acc h
    have hni : (4 ≤ i) = False := by simp; omega
    rw [show fu + (d + 1) + 1 = (fu + d + 1) + 1 from rfl, f_X1_litresIntoBarrels_4]
    simp (disch := omega) only [pq_le4, hni, if_false, f_X8_litresOnRoof, q_1_emptyUnder hK hR hV, pq_bd, rc_lt, pq_s, pq_fd]
    rw [ih fu (i + 1) _ (by omega)]
    have e := pq_cg2 hV (r := i) (s := s) (by omega) hs
    rw [pq_s] at e
    rw [e]
theorem q1_catch (hK : pq_K rf c) (hR : pq_R σ c g n p) (hV : pq_V g n p N) {s : Nat} (hs : s ≤ 9) : f_X1_litresIntoBarrels rf c (Int32.ofNat s) σ = some (pq_cg g n (Int32.ofNat s) 0 + pq_cg g n (Int32.ofNat s) 1 + pq_cg g n (Int32.ofNat s) 2 + pq_cg g n (Int32.ofNat s) 3, σ) := by
  have e := q1_into (rf := rf) hK hR hV hs (fun v2_6 v3_7 σ_8 => some (v2_6, σ_8)) 4 99995 0 0 (by omega)
  rw [f_X1_litresIntoBarrels, pq_fu 4 (by omega)]
  refine e.trans ?_
  simp only [pq_fd, Int32.zero_add]
theorem q8_roofs {s : Int32} (K : Int32 → Int32 → rc_S → Option (Int32 × rc_S)) : ∀ (d fu i : Nat) (acc : Int32), i + d = 4 → f_X8_litresOnRoofs_4 rf s K (fu + d + 1) acc (Int32.ofNat i) σ = K (pq_fd (fun r a => a + (Int32.ofNat r + 1) * s) i d acc) (Int32.ofNat 4) σ := by
  intro d
  induction d with
  | zero =>
    intro fu i acc h
    have hi : i = 4 := by omega
    subst hi
    rw [f_X8_litresOnRoofs_4, if_pos (by decide), pq_fd]
  | succ d ih =>
    intro fu i acc h
    have hni : (4 ≤ i) = False := by simp; omega
    rw [show fu + (d + 1) + 1 = (fu + d + 1) + 1 from rfl, f_X8_litresOnRoofs_4]
    simp (disch := omega) only [pq_le4, hni, if_false, f_X8_litresOnRoof, pq_bd, rc_lt, pq_s, pq_fd]
    rw [ih fu (i + 1) _ (by omega)]
    simp only [pq_s]
theorem pq_10s (s : Int32) : 0 + (Int32.ofNat 0 + 1) * s + (Int32.ofNat (0 + 1) + 1) * s + (Int32.ofNat (0 + 1 + 1) + 1) * s + (Int32.ofNat (0 + 1 + 1 + 1) + 1) * s = 10 * s := by
  show 0 + (0 + 1) * s + (1 + 1) * s + (2 + 1) * s + (3 + 1) * s = 10 * s
  grind
theorem q8_allRoofs {s : Int32} : f_X8_litresOnRoofs rf s σ = some (10 * s, σ) := by
  have e := q8_roofs (rf := rf) (σ := σ) (s := s) (fun v1_5 v2_6 σ_7 => some (v1_5, σ_7)) 4 99995 0 0 (by omega)
  rw [f_X8_litresOnRoofs, pq_fu 4 (by omega)]
  refine e.trans ?_
  simp only [pq_fd]
  rw [pq_10s]
end PQQ6

