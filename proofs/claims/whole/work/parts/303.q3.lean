theorem pq_nes : ¬ (0 : Int32) = 1 ∧ ¬ (0 : Int32) = 2 ∧ ¬ (0 : Int32) = 3 ∧ ¬ (0 : Int32) = 4 ∧ ¬ (0 : Int32) = 5 ∧ ¬ (0 : Int32) = 6 ∧ ¬ (1 : Int32) = 0 ∧ ¬ (1 : Int32) = 2 ∧ ¬ (1 : Int32) = 3 ∧ ¬ (1 : Int32) = 4 ∧ ¬ (1 : Int32) = 5 ∧ ¬ (1 : Int32) = 6 ∧ ¬ (2 : Int32) = 0 ∧ ¬ (2 : Int32) = 1 ∧ ¬ (2 : Int32) = 3 ∧ ¬ (2 : Int32) = 4 ∧ ¬ (2 : Int32) = 5 ∧ ¬ (2 : Int32) = 6 ∧ ¬ (3 : Int32) = 0 ∧ ¬ (3 : Int32) = 1 ∧ ¬ (3 : Int32) = 2 ∧ ¬ (3 : Int32) = 4 ∧ ¬ (3 : Int32) = 5 ∧ ¬ (3 : Int32) = 6 ∧ ¬ (4 : Int32) = 0 ∧ ¬ (4 : Int32) = 1 ∧ ¬ (4 : Int32) = 2 ∧ ¬ (4 : Int32) = 3 ∧ ¬ (4 : Int32) = 5 ∧ ¬ (4 : Int32) = 6 ∧ ¬ (5 : Int32) = 0 ∧ ¬ (5 : Int32) = 1 ∧ ¬ (5 : Int32) = 2 ∧ ¬ (5 : Int32) = 3 ∧ ¬ (5 : Int32) = 4 ∧ ¬ (5 : Int32) = 6 ∧ ¬ (6 : Int32) = 0 ∧ ¬ (6 : Int32) = 1 ∧ ¬ (6 : Int32) = 2 ∧ ¬ (6 : Int32) = 3 ∧ ¬ (6 : Int32) = 4 ∧ ¬ (6 : Int32) = 5 := by decide
/-- where all lies, from the class's object x on -/
def pq_X (rf : rc_F) (x : Nat) : Prop :=
  (rf x 0 = x + 1 ∧ rf x 1 = x + 2 ∧ rf x 2 = x + 29 ∧ rf x 3 = x + 30 ∧ rf x 5 = x + 57 ∧ rf x 6 = x + 302 ∧ rf x 8 = x + 306) ∧ (rf (x + 1) 0 = x + 2 ∧ rf (x + 1) 1 = x + 29) ∧ (rf (x + 57) 0 = x + 58 ∧ ∀ j, j < 9 → rf (x + 58) j = x + 59 + 27 * j) ∧
  (rf (x + 302) 0 = x + 303 ∧ rf (x + 302) 2 = x + 304 ∧ rf (x + 302) 3 = x + 305) ∧ rf (x + 306) 0 = x + 307 ∧ pq_M rf (x + 308) ∧ pq_K rf (x + 2) ∧ pq_K rf (x + 30) ∧ ∀ j, j < 9 → pq_K rf (x + 59 + 27 * j)
section PQX
variable {rf : rc_F} {x : Nat}
theorem pq_x0 (h : pq_X rf x) : rf x 0 = x + 1 := h.1.1
theorem pq_x1 (h : pq_X rf x) : rf x 1 = x + 2 := h.1.2.1
theorem pq_x2 (h : pq_X rf x) : rf x 2 = x + 29 := h.1.2.2.1
theorem pq_x3 (h : pq_X rf x) : rf x 3 = x + 30 := h.1.2.2.2.1
theorem pq_x5 (h : pq_X rf x) : rf x 5 = x + 57 := h.1.2.2.2.2.1
theorem pq_x6 (h : pq_X rf x) : rf x 6 = x + 302 := h.1.2.2.2.2.2.1
theorem pq_x8 (h : pq_X rf x) : rf x 8 = x + 306 := h.1.2.2.2.2.2.2
theorem pq_w0 (h : pq_X rf x) : rf (x + 1) 0 = x + 2 := h.2.1.1
theorem pq_w1 (h : pq_X rf x) : rf (x + 1) 1 = x + 29 := h.2.1.2
theorem pq_h0 (h : pq_X rf x) : rf (x + 57) 0 = x + 58 := h.2.2.1.1
theorem pq_hj (h : pq_X rf x) {j : Nat} (hj : j < 9) : rf (x + 58) j = x + 59 + 27 * j := h.2.2.1.2 j hj
theorem pq_t0 (h : pq_X rf x) : rf (x + 302) 0 = x + 303 := h.2.2.2.1.1
theorem pq_t2 (h : pq_X rf x) : rf (x + 302) 2 = x + 304 := h.2.2.2.1.2.1
theorem pq_t3 (h : pq_X rf x) : rf (x + 302) 3 = x + 305 := h.2.2.2.1.2.2
theorem pq_b (h : pq_X rf x) : rf (x + 306) 0 = x + 307 := h.2.2.2.2.1
theorem pq_xm (h : pq_X rf x) : pq_M rf (x + 308) := h.2.2.2.2.2.1
theorem pq_xk (h : pq_X rf x) : pq_K rf (x + 2) := h.2.2.2.2.2.2.1
theorem pq_xs (h : pq_X rf x) : pq_K rf (x + 30) := h.2.2.2.2.2.2.2.1
theorem pq_xh (h : pq_X rf x) {j : Nat} (hj : j < 9) : pq_K rf (x + 59 + 27 * j) := h.2.2.2.2.2.2.2.2 j hj
end PQX
theorem pq_gu {σ : rc_S} {m k : Nat} {v : Int32} {g : Nat → Int32} (hg : σ (m + 1) = g) : rc_up σ m k v (m + 1) = g := by rw [pq_upN (by omega), hg]
theorem pq_uu {σ : rc_S} {a k : Nat} {x y : Int32} : rc_up (rc_up σ a k x) a k y = rc_up σ a k y := by
  funext b
  unfold rc_up
  by_cases h : b = a
  · subst h
    simp only [if_true]
    funext j
    simp only [upd]
    split <;> rfl
  · simp only [h, if_false]
/-- a question: the class changes nothing, the reference its 'thrown' alone -/
def pq_Q {α : Type} (A : Option (Nat × α × rc_S)) (B : Option (α × rc_S)) (σ : rc_S) (m : Nat) (P : Nat → Int32 → Prop) : Prop := ∃ (k : Nat) (r : α) (cd : Int32) (b : α), A = some (k, r, σ) ∧ B = some (b, rc_up σ m 0 cd) ∧ P k cd ∧ (k = 0 → r = b)
theorem pq_Qm {α : Type} {A : Option (Nat × α × rc_S)} {B : Option (α × rc_S)} {σ : rc_S} {m : Nat} {P : Nat → Int32 → Prop} (k : Nat) (cd : Int32) (r b : α) (hP : P k cd) (hr : k = 0 → r = b) (hA : A = some (k, r, σ)) (hB : B = some (b, rc_up σ m 0 cd)) : pq_Q A B σ m P := ⟨k, r, cd, b, hA, hB, hP, hr⟩
theorem pq_QmE {α : Type} {A : Option (Nat × α × rc_S)} {B : Option (α × rc_S)} {σ : rc_S} {m : Nat} {P : Nat → Int32 → Prop} (v : α) (hP : P 0 0) (hA : A = some (0, v, σ)) (hB : B = some (v, rc_up σ m 0 0)) : pq_Q A B σ m P := ⟨0, v, 0, v, hA, hB, hP, fun _ => rfl⟩
theorem pq_i0 {u : Int32} (h : 0 ≤ u.toInt) : 0 ≤ u := by rw [Int32.le_iff_toInt_le]; exact h
theorem pq_i20 {u : Int32} (h : u.toInt ≤ 20) : u ≤ 20 := by rw [Int32.le_iff_toInt_le]; exact h
theorem pq_4 {u : Int32} (h : ¬ u < 0 ∧ ¬ 3 < u) : u = 0 ∨ u = 1 ∨ u = 2 ∨ u = 3 := by grind
theorem pq_3 {u : Int32} (h : ¬ u < 0 ∧ ¬ 2 < u) : u = 0 ∨ u = 1 ∨ u = 2 := by grind
theorem pq_4n {u : Int32} (h : ¬ (¬ u < 0 ∧ ¬ 3 < u)) : ¬ u = 0 ∧ ¬ u = 1 ∧ ¬ u = 2 ∧ ¬ u = 3 := by grind
theorem pq_3n {u : Int32} (h : ¬ (¬ u < 0 ∧ ¬ 2 < u)) : ¬ u = 0 ∧ ¬ u = 1 ∧ ¬ u = 2 := by grind
theorem pq_4b {u : Int32} (h : ¬ u < 0 ∧ ¬ 3 < u) : ∃ i, i < 4 ∧ u = Int32.ofNat i := pq_nat h.1 (show u < 4 by grind) (by decide)
theorem pq_mx {i : Nat} : (11 : Int32) + Int32.ofNat i = Int32.ofNat (11 + i) := by rw [Int32.ofNat_add]; rfl
theorem q8_out {rf : rc_F} {σ : rc_S} {u a b : Int32} : f_X8_isOutside rf u a b σ = some (if ¬ u < a ∧ ¬ b < u then 0 else 1, σ) := by
  unfold f_X8_isOutside
  by_cases h1 : u < a
  · simp [h1]
  · by_cases h2 : u ≤ b
    · simp [h1, h2, Int32.not_lt.mpr h2]
    · simp [h1, h2, Int32.not_le.mp h2]
section PQQ
variable {rf : rc_F} {σ : rc_S} {x : Nat} {g : Nat → Int32} {n p N b : Nat}
theorem pq_ub (hV : pq_V g n p N) {u : Int32} (hu : ¬ u < 0 ∧ u < g 0) : ∃ b, b < n ∧ u = Int32.ofNat b := by
  rw [pq_v0 hV] at hu
  exact pq_nat hu.1 hu.2 (by have := pq_vn hV; omega)
theorem pq_us (hV : pq_V g n p N) {u : Int32} (hu : ¬ u < 0 ∧ u < g 1) : ∃ b, b < p ∧ u = Int32.ofNat b := by
  rw [pq_v1 hV] at hu
  exact pq_nat hu.1 hu.2 (by have := pq_vp hV; omega)
theorem q8_ex0 (hX : pq_X rf x) (hR : pq_R σ (x + 2) g n p) {u : Int32} (hu : ¬ (¬ u < 0 ∧ u < g 0)) : f_X8_existing rf x u σ = some (2, 0, σ) := by
  simp only [f_X8_existing, pq_x1 hX, q1_has hR, pq_bd, pq_i10, if_pos hu]
theorem q8_ex (hX : pq_X rf x) (hR : pq_R σ (x + 2) g n p) (hV : pq_V g n p N) (hb : b < n) (hu : ¬ Int32.ofNat b < 0 ∧ Int32.ofNat b < g 0) : f_X8_existing rf x (Int32.ofNat b) σ = some (0, x + 2 + 7 + b, σ) := by
  have h8 := pq_vn hV
  simp only [f_X8_existing, pq_x1 hX, q1_has hR, pq_bd, pq_i10, if_neg (not_not_intro hu)]
  rw [pq_in (by omega) (by omega), pq_ck, pq_k1 (pq_xk hX), pq_cl (by omega), pq_kb (pq_xk hX) (by omega)]
theorem q8_fi (hX : pq_X rf x) (hR : pq_R σ (x + 2) g n p) (hV : pq_V g n p N) (hb : b < n) (hu : ¬ Int32.ofNat b < 0 ∧ Int32.ofNat b < g 0) : f_X8_filled rf x (Int32.ofNat b) σ = if g (16 + 6 * b) = 0 then some (4, 0, σ) else some (0, x + 2 + 7 + b, σ) := by
  rw [f_X8_filled, q8_ex hX hR hV hb hu, pq_bx, q0_empty, pq_bd, pq_b1 hR hb]
  by_cases h : g (16 + 6 * b) = 0
  · simp [h]
  · simp [h]
theorem q9_fi0 {m : Nat} (hM : pq_M rf m) (hg : σ (m + 1) = g) (hV : pq_V g n p N) {u : Int32} (hu : ¬ (¬ u < 0 ∧ u < g 0)) : f_X9_filled rf m u σ = some (1, σ) := by
  simp only [f_X9_filled, q9_isB hM hg hV, pq_bd, if_neg hu, if_true]
theorem q9_fi {m : Nat} (hM : pq_M rf m) (hg : σ (m + 1) = g) (hV : pq_V g n p N) (hb : b < n) (hu : ¬ Int32.ofNat b < 0 ∧ Int32.ofNat b < g 0) : f_X9_filled rf m (Int32.ofNat b) σ = some (if g (16 + 6 * b) = 0 then 2 else 0, σ) := by
  have h8 := pq_vn hV
  simp only [f_X9_filled, q9_isB hM hg hV, pq_bd, if_pos hu, if_false, show ((1 : Int32) = 0) = False from by decide, q9_of1 hM hg (Nat.lt_of_lt_of_le hb h8)]
  by_cases h : g (16 + 6 * b) = 0 <;> simp [h]

theorem q_roofOf (hX : pq_X rf x) (hR : pq_R σ (x + 2) g n p) (hV : pq_V g n p N) (hg : σ (x + 308 + 1) = g) {u1 u2 : Int32} : pq_Q (f_X8_roofOf rf x u1 u2 σ) (f_X9_roofOf rf (x + 308) u1 u2 σ) σ (x + 308) (fun k cd => (k = 0 ∧ cd = 0) ∨ (k = 2 ∧ cd = 1) ∨ (k = 3 ∧ cd = 2)) := by
  have hK := pq_xk hX
  have hM := pq_xm hX
  have h8 := pq_vn hV
  have h4 := pq_vp hV
  by_cases h1 : ¬ u1 < 0 ∧ ¬ 3 < u1
  · obtain ⟨i, hi, rfl⟩ := pq_4b h1
    by_cases h2 : ¬ u2 < 0 ∧ ¬ 3 < u2
    · rcases pq_4 h2 with rfl | rfl | rfl | rfl
      · refine pq_QmE (g (11 + i)) (by simp) ?_ ?_
        · simp (disch := omega) only [f_X8_roofOf, q8_out, pq_bd, pq_ck, pq_bx, rc_lt, pq_i10, pq_i01, pq_x1 hX, pq_x2 hX, pq_x5 hX, pq_x6 hX, pq_x8 hX, pq_k0 hK, pq_k1 hK, pq_k3 hK, pq_k4 hK, pq_kp hK, pq_ks hK, h1, pq_in, pq_cl, pq_cm hR, not_false_eq_true, not_true_eq_false, and_self, and_true, true_and, and_false, false_and, or_true, true_or, or_false, false_or, if_true, if_false, ↓reduceIte, Decidable.not_not, ne_eq, Int32.reduceLE, Int32.reduceLT, pq_nes, eq_self]
        · simp (disch := omega) only [f_X9_roofOf, q9_in, pq_m1 hM, hg, pq_bd, pq_ck, pq_bx, rc_lt, pq_i10, pq_i01, pq_upE, pq_udE, pq_uu, pq_gu hg, h1, pq_mx, pq_in, pq_cl, not_false_eq_true, not_true_eq_false, and_self, and_true, true_and, and_false, false_and, or_true, true_or, or_false, false_or, if_true, if_false, ↓reduceIte, Decidable.not_not, ne_eq, Int32.reduceLE, Int32.reduceLT, pq_nes, eq_self]
      · refine pq_QmE (pq_fd (fun b a => if g (15 + 6 * b) = Int32.ofNat i then a + 1 else a) 0 n 0) (by simp) ?_ ?_
        · simp (disch := omega) only [f_X8_roofOf, q8_out, pq_bd, pq_ck, pq_bx, rc_lt, pq_i10, pq_i01, pq_x1 hX, pq_x2 hX, pq_x5 hX, pq_x6 hX, pq_x8 hX, pq_k0 hK, pq_k1 hK, pq_k3 hK, pq_k4 hK, pq_kp hK, pq_ks hK, h1, q_1_barrelsUnder hK hR hV, not_false_eq_true, not_true_eq_false, and_self, and_true, true_and, and_false, false_and, or_true, true_or, or_false, false_or, if_true, if_false, ↓reduceIte, Decidable.not_not, ne_eq, Int32.reduceLE, Int32.reduceLT, pq_nes, eq_self]
        · simp (disch := omega) only [f_X9_roofOf, q9_in, pq_m1 hM, hg, pq_bd, pq_ck, pq_bx, rc_lt, pq_i10, pq_i01, pq_upE, pq_udE, pq_uu, pq_gu hg, h1, q_9_under_1 hM (pq_gu hg) hV, not_false_eq_true, not_true_eq_false, and_self, and_true, true_and, and_false, false_and, or_true, true_or, or_false, false_or, if_true, if_false, ↓reduceIte, Decidable.not_not, ne_eq, Int32.reduceLE, Int32.reduceLT, pq_nes, eq_self]
      · refine pq_QmE (pq_fd (fun b a => if g (15 + 6 * b) = Int32.ofNat i ∧ g (16 + 6 * b) = 0 then a + 1 else a) 0 n 0) (by simp) ?_ ?_
        · simp (disch := omega) only [f_X8_roofOf, q8_out, pq_bd, pq_ck, pq_bx, rc_lt, pq_i10, pq_i01, pq_x1 hX, pq_x2 hX, pq_x5 hX, pq_x6 hX, pq_x8 hX, pq_k0 hK, pq_k1 hK, pq_k3 hK, pq_k4 hK, pq_kp hK, pq_ks hK, h1, q_1_emptyUnder hK hR hV, not_false_eq_true, not_true_eq_false, and_self, and_true, true_and, and_false, false_and, or_true, true_or, or_false, false_or, if_true, if_false, ↓reduceIte, Decidable.not_not, ne_eq, Int32.reduceLE, Int32.reduceLT, pq_nes, eq_self]
        · simp (disch := omega) only [f_X9_roofOf, q9_in, pq_m1 hM, hg, pq_bd, pq_ck, pq_bx, rc_lt, pq_i10, pq_i01, pq_upE, pq_udE, pq_uu, pq_gu hg, h1, q_9_under_2 hM (pq_gu hg) hV, not_false_eq_true, not_true_eq_false, and_self, and_true, true_and, and_false, false_and, or_true, true_or, or_false, false_or, if_true, if_false, ↓reduceIte, Decidable.not_not, ne_eq, Int32.reduceLE, Int32.reduceLT, pq_nes, eq_self]
      · refine pq_QmE (pq_fd (fun b a => if g (15 + 6 * b) = Int32.ofNat i then a + g (16 + 6 * b) else a) 0 n 0) (by simp) ?_ ?_
        · simp (disch := omega) only [f_X8_roofOf, q8_out, pq_bd, pq_ck, pq_bx, rc_lt, pq_i10, pq_i01, pq_x1 hX, pq_x2 hX, pq_x5 hX, pq_x6 hX, pq_x8 hX, pq_k0 hK, pq_k1 hK, pq_k3 hK, pq_k4 hK, pq_kp hK, pq_ks hK, h1, q_1_litresUnder hK hR hV, not_false_eq_true, not_true_eq_false, and_self, and_true, true_and, and_false, false_and, or_true, true_or, or_false, false_or, if_true, if_false, ↓reduceIte, Decidable.not_not, ne_eq, Int32.reduceLE, Int32.reduceLT, pq_nes, eq_self]
        · simp (disch := omega) only [f_X9_roofOf, q9_in, pq_m1 hM, hg, pq_bd, pq_ck, pq_bx, rc_lt, pq_i10, pq_i01, pq_upE, pq_udE, pq_uu, pq_gu hg, h1, q_9_under_3 hM (pq_gu hg) hV, not_false_eq_true, not_true_eq_false, and_self, and_true, true_and, and_false, false_and, or_true, true_or, or_false, false_or, if_true, if_false, ↓reduceIte, Decidable.not_not, ne_eq, Int32.reduceLE, Int32.reduceLT, pq_nes, eq_self]
    · have h3 := pq_4n h2
      refine pq_Qm 3 2 (0 : Int32) 0 (by simp) (by simp) ?_ ?_
      · simp (disch := omega) only [f_X8_roofOf, q8_out, pq_bd, pq_ck, pq_bx, rc_lt, pq_i10, pq_i01, pq_x1 hX, pq_x2 hX, pq_x5 hX, pq_x6 hX, pq_x8 hX, pq_k0 hK, pq_k1 hK, pq_k3 hK, pq_k4 hK, pq_kp hK, pq_ks hK, h1, h3, not_false_eq_true, not_true_eq_false, and_self, and_true, true_and, and_false, false_and, or_true, true_or, or_false, false_or, if_true, if_false, ↓reduceIte, Decidable.not_not, ne_eq, Int32.reduceLE, Int32.reduceLT, pq_nes, eq_self]
      · simp (disch := omega) only [f_X9_roofOf, q9_in, pq_m1 hM, hg, pq_bd, pq_ck, pq_bx, rc_lt, pq_i10, pq_i01, pq_upE, pq_udE, pq_uu, pq_gu hg, h1, if_neg h2, not_false_eq_true, not_true_eq_false, and_self, and_true, true_and, and_false, false_and, or_true, true_or, or_false, false_or, if_true, if_false, ↓reduceIte, Decidable.not_not, ne_eq, Int32.reduceLE, Int32.reduceLT, pq_nes, eq_self]
  · refine pq_Qm 2 1 (0 : Int32) 0 (by simp) (by simp) ?_ ?_
    · simp (disch := omega) only [f_X8_roofOf, q8_out, pq_bd, pq_ck, pq_bx, rc_lt, pq_i10, pq_i01, pq_x1 hX, pq_x2 hX, pq_x5 hX, pq_x6 hX, pq_x8 hX, pq_k0 hK, pq_k1 hK, pq_k3 hK, pq_k4 hK, pq_kp hK, pq_ks hK, if_neg h1, not_false_eq_true, not_true_eq_false, and_self, and_true, true_and, and_false, false_and, or_true, true_or, or_false, false_or, if_true, if_false, ↓reduceIte, Decidable.not_not, ne_eq, Int32.reduceLE, Int32.reduceLT, pq_nes, eq_self]
    · simp (disch := omega) only [f_X9_roofOf, q9_in, pq_m1 hM, hg, pq_bd, pq_ck, pq_bx, rc_lt, pq_i10, pq_i01, pq_upE, pq_udE, pq_uu, pq_gu hg, if_neg h1, not_false_eq_true, not_true_eq_false, and_self, and_true, true_and, and_false, false_and, or_true, true_or, or_false, false_or, if_true, if_false, ↓reduceIte, Decidable.not_not, ne_eq, Int32.reduceLE, Int32.reduceLT, pq_nes, eq_self]
theorem q_barrelOf (hX : pq_X rf x) (hR : pq_R σ (x + 2) g n p) (hV : pq_V g n p N) (hg : σ (x + 308 + 1) = g) {u1 u2 : Int32} : pq_Q (f_X8_barrelOf rf x u1 u2 σ) (f_X9_barrelOf rf (x + 308) u1 u2 σ) σ (x + 308) (fun k cd => (k = 0 ∧ cd = 0) ∨ (k = 2 ∧ cd = 1) ∨ (k = 3 ∧ cd = 2)) := by
  have hK := pq_xk hX
  have hM := pq_xm hX
  have h8 := pq_vn hV
  have h4 := pq_vp hV
  by_cases h1 : ¬ u1 < 0 ∧ u1 < g 0
  · obtain ⟨b, hb, rfl⟩ := pq_ub hV h1
    have hb8 : b < 8 := by omega
    by_cases e0 : u2 = 0
    · subst e0
      refine pq_QmE (g (15 + 6 * b)) (by simp) ?_ ?_
      · simp (disch := omega) only [f_X8_barrelOf, pq_bd, pq_ck, pq_bx, rc_lt, pq_i10, pq_i01, pq_x1 hX, pq_x2 hX, pq_x5 hX, pq_x6 hX, pq_x8 hX, pq_k0 hK, pq_k1 hK, pq_k3 hK, pq_k4 hK, pq_kp hK, pq_ks hK, q8_ex hX hR hV hb h1, pq_b0 hR, not_false_eq_true, not_true_eq_false, and_self, and_true, true_and, and_false, false_and, or_true, true_or, or_false, false_or, if_true, if_false, ↓reduceIte, Decidable.not_not, ne_eq, Int32.reduceLE, Int32.reduceLT, pq_nes, eq_self]
      · simp (disch := omega) only [f_X9_barrelOf, q9_isB hM hg hV, f_X9_fails, pq_bd, pq_ck, pq_bx, rc_lt, pq_i10, pq_i01, pq_upE, pq_udE, pq_uu, pq_gu hg, if_pos h1, q9_of0 hM (pq_gu hg), not_false_eq_true, not_true_eq_false, and_self, and_true, true_and, and_false, false_and, or_true, true_or, or_false, false_or, if_true, if_false, ↓reduceIte, Decidable.not_not, ne_eq, Int32.reduceLE, Int32.reduceLT, pq_nes, eq_self]
    by_cases e1 : u2 = 1
    · subst e1
      refine pq_QmE (g (16 + 6 * b)) (by simp) ?_ ?_
      · simp (disch := omega) only [f_X8_barrelOf, pq_bd, pq_ck, pq_bx, rc_lt, pq_i10, pq_i01, pq_x1 hX, pq_x2 hX, pq_x5 hX, pq_x6 hX, pq_x8 hX, pq_k0 hK, pq_k1 hK, pq_k3 hK, pq_k4 hK, pq_kp hK, pq_ks hK, q8_ex hX hR hV hb h1, pq_b1 hR, not_false_eq_true, not_true_eq_false, and_self, and_true, true_and, and_false, false_and, or_true, true_or, or_false, false_or, if_true, if_false, ↓reduceIte, Decidable.not_not, ne_eq, Int32.reduceLE, Int32.reduceLT, pq_nes, eq_self]
      · simp (disch := omega) only [f_X9_barrelOf, q9_isB hM hg hV, f_X9_fails, pq_bd, pq_ck, pq_bx, rc_lt, pq_i10, pq_i01, pq_upE, pq_udE, pq_uu, pq_gu hg, if_pos h1, q9_of1 hM (pq_gu hg), not_false_eq_true, not_true_eq_false, and_self, and_true, true_and, and_false, false_and, or_true, true_or, or_false, false_or, if_true, if_false, ↓reduceIte, Decidable.not_not, ne_eq, Int32.reduceLE, Int32.reduceLT, pq_nes, eq_self]
    by_cases e2 : u2 = 2
    · subst e2
      refine pq_QmE (g (17 + 6 * b)) (by simp) ?_ ?_
      · simp (disch := omega) only [f_X8_barrelOf, pq_bd, pq_ck, pq_bx, rc_lt, pq_i10, pq_i01, pq_x1 hX, pq_x2 hX, pq_x5 hX, pq_x6 hX, pq_x8 hX, pq_k0 hK, pq_k1 hK, pq_k3 hK, pq_k4 hK, pq_kp hK, pq_ks hK, q8_ex hX hR hV hb h1, pq_b2 hR, not_false_eq_true, not_true_eq_false, and_self, and_true, true_and, and_false, false_and, or_true, true_or, or_false, false_or, if_true, if_false, ↓reduceIte, Decidable.not_not, ne_eq, Int32.reduceLE, Int32.reduceLT, pq_nes, eq_self]
      · simp (disch := omega) only [f_X9_barrelOf, q9_isB hM hg hV, f_X9_fails, pq_bd, pq_ck, pq_bx, rc_lt, pq_i10, pq_i01, pq_upE, pq_udE, pq_uu, pq_gu hg, if_pos h1, q9_of2 hM (pq_gu hg), not_false_eq_true, not_true_eq_false, and_self, and_true, true_and, and_false, false_and, or_true, true_or, or_false, false_or, if_true, if_false, ↓reduceIte, Decidable.not_not, ne_eq, Int32.reduceLE, Int32.reduceLT, pq_nes, eq_self]
    by_cases e3 : u2 = 3
    · subst e3
      refine pq_QmE (g (18 + 6 * b)) (by simp) ?_ ?_
      · simp (disch := omega) only [f_X8_barrelOf, pq_bd, pq_ck, pq_bx, rc_lt, pq_i10, pq_i01, pq_x1 hX, pq_x2 hX, pq_x5 hX, pq_x6 hX, pq_x8 hX, pq_k0 hK, pq_k1 hK, pq_k3 hK, pq_k4 hK, pq_kp hK, pq_ks hK, q8_ex hX hR hV hb h1, pq_b3 hR, not_false_eq_true, not_true_eq_false, and_self, and_true, true_and, and_false, false_and, or_true, true_or, or_false, false_or, if_true, if_false, ↓reduceIte, Decidable.not_not, ne_eq, Int32.reduceLE, Int32.reduceLT, pq_nes, eq_self]
      · simp (disch := omega) only [f_X9_barrelOf, q9_isB hM hg hV, f_X9_fails, pq_bd, pq_ck, pq_bx, rc_lt, pq_i10, pq_i01, pq_upE, pq_udE, pq_uu, pq_gu hg, if_pos h1, q9_of3 hM (pq_gu hg), not_false_eq_true, not_true_eq_false, and_self, and_true, true_and, and_false, false_and, or_true, true_or, or_false, false_or, if_true, if_false, ↓reduceIte, Decidable.not_not, ne_eq, Int32.reduceLE, Int32.reduceLT, pq_nes, eq_self]
    by_cases e4 : u2 = 4
    · subst e4
      refine pq_QmE (g (19 + 6 * b)) (by simp) ?_ ?_
      · simp (disch := omega) only [f_X8_barrelOf, pq_bd, pq_ck, pq_bx, rc_lt, pq_i10, pq_i01, pq_x1 hX, pq_x2 hX, pq_x5 hX, pq_x6 hX, pq_x8 hX, pq_k0 hK, pq_k1 hK, pq_k3 hK, pq_k4 hK, pq_kp hK, pq_ks hK, q8_ex hX hR hV hb h1, pq_b4 hR, not_false_eq_true, not_true_eq_false, and_self, and_true, true_and, and_false, false_and, or_true, true_or, or_false, false_or, if_true, if_false, ↓reduceIte, Decidable.not_not, ne_eq, Int32.reduceLE, Int32.reduceLT, pq_nes, eq_self]
      · simp (disch := omega) only [f_X9_barrelOf, q9_isB hM hg hV, f_X9_fails, pq_bd, pq_ck, pq_bx, rc_lt, pq_i10, pq_i01, pq_upE, pq_udE, pq_uu, pq_gu hg, if_pos h1, q9_of4 hM (pq_gu hg), not_false_eq_true, not_true_eq_false, and_self, and_true, true_and, and_false, false_and, or_true, true_or, or_false, false_or, if_true, if_false, ↓reduceIte, Decidable.not_not, ne_eq, Int32.reduceLE, Int32.reduceLT, pq_nes, eq_self]
    by_cases e5 : u2 = 5
    · subst e5
      refine pq_QmE (pq_A g b) (by simp) ?_ ?_
      · simp (disch := omega) only [f_X8_barrelOf, pq_bd, pq_ck, pq_bx, rc_lt, pq_i10, pq_i01, pq_x1 hX, pq_x2 hX, pq_x5 hX, pq_x6 hX, pq_x8 hX, pq_k0 hK, pq_k1 hK, pq_k3 hK, pq_k4 hK, pq_kp hK, pq_ks hK, q8_ex hX hR hV hb h1, q1_age hR, not_false_eq_true, not_true_eq_false, and_self, and_true, true_and, and_false, false_and, or_true, true_or, or_false, false_or, if_true, if_false, ↓reduceIte, Decidable.not_not, ne_eq, Int32.reduceLE, Int32.reduceLT, pq_nes, eq_self]
      · simp (disch := omega) only [f_X9_barrelOf, q9_isB hM hg hV, f_X9_fails, pq_bd, pq_ck, pq_bx, rc_lt, pq_i10, pq_i01, pq_upE, pq_udE, pq_uu, pq_gu hg, if_pos h1, q9_age hM (pq_gu hg), not_false_eq_true, not_true_eq_false, and_self, and_true, true_and, and_false, false_and, or_true, true_or, or_false, false_or, if_true, if_false, ↓reduceIte, Decidable.not_not, ne_eq, Int32.reduceLE, Int32.reduceLT, pq_nes, eq_self]
    by_cases e6 : u2 = 6
    · subst e6
      refine pq_QmE (pq_P g b) (by simp) ?_ ?_
      · simp (disch := omega) only [f_X8_barrelOf, pq_bd, pq_ck, pq_bx, rc_lt, pq_i10, pq_i01, pq_x1 hX, pq_x2 hX, pq_x5 hX, pq_x6 hX, pq_x8 hX, pq_k0 hK, pq_k1 hK, pq_k3 hK, pq_k4 hK, pq_kp hK, pq_ks hK, q8_ex hX hR hV hb h1, q1_part hR hV, not_false_eq_true, not_true_eq_false, and_self, and_true, true_and, and_false, false_and, or_true, true_or, or_false, false_or, if_true, if_false, ↓reduceIte, Decidable.not_not, ne_eq, Int32.reduceLE, Int32.reduceLT, pq_nes, eq_self]
      · simp (disch := omega) only [f_X9_barrelOf, q9_isB hM hg hV, f_X9_fails, pq_bd, pq_ck, pq_bx, rc_lt, pq_i10, pq_i01, pq_upE, pq_udE, pq_uu, pq_gu hg, if_pos h1, q9_part hM (pq_gu hg), not_false_eq_true, not_true_eq_false, and_self, and_true, true_and, and_false, false_and, or_true, true_or, or_false, false_or, if_true, if_false, ↓reduceIte, Decidable.not_not, ne_eq, Int32.reduceLE, Int32.reduceLT, pq_nes, eq_self]
    refine pq_Qm 3 2 (0 : Int32) 0 (by simp) (by simp) ?_ ?_
    · simp (disch := omega) only [f_X8_barrelOf, pq_bd, pq_ck, pq_bx, rc_lt, pq_i10, pq_i01, pq_x1 hX, pq_x2 hX, pq_x5 hX, pq_x6 hX, pq_x8 hX, pq_k0 hK, pq_k1 hK, pq_k3 hK, pq_k4 hK, pq_kp hK, pq_ks hK, q8_ex hX hR hV hb h1, e0, e1, e2, e3, e4, e5, e6, not_false_eq_true, not_true_eq_false, and_self, and_true, true_and, and_false, false_and, or_true, true_or, or_false, false_or, if_true, if_false, ↓reduceIte, Decidable.not_not, ne_eq, Int32.reduceLE, Int32.reduceLT, pq_nes, eq_self]
    · simp (disch := omega) only [f_X9_barrelOf, q9_isB hM hg hV, f_X9_fails, pq_bd, pq_ck, pq_bx, rc_lt, pq_i10, pq_i01, pq_upE, pq_udE, pq_uu, pq_gu hg, if_pos h1, e0, e1, e2, e3, e4, e5, e6, not_false_eq_true, not_true_eq_false, and_self, and_true, true_and, and_false, false_and, or_true, true_or, or_false, false_or, if_true, if_false, ↓reduceIte, Decidable.not_not, ne_eq, Int32.reduceLE, Int32.reduceLT, pq_nes, eq_self]
  · refine pq_Qm 2 1 (0 : Int32) 0 (by simp) (by simp) ?_ ?_
    · simp (disch := omega) only [f_X8_barrelOf, pq_bd, pq_ck, pq_bx, rc_lt, pq_i10, pq_i01, pq_x1 hX, pq_x2 hX, pq_x5 hX, pq_x6 hX, pq_x8 hX, pq_k0 hK, pq_k1 hK, pq_k3 hK, pq_k4 hK, pq_kp hK, pq_ks hK, q8_ex0 hX hR h1, pq_bxk (show (2 : Nat) ≠ 0 by decide), not_false_eq_true, not_true_eq_false, and_self, and_true, true_and, and_false, false_and, or_true, true_or, or_false, false_or, if_true, if_false, ↓reduceIte, Decidable.not_not, ne_eq, Int32.reduceLE, Int32.reduceLT, pq_nes, eq_self]
    · simp (disch := omega) only [f_X9_barrelOf, q9_isB hM hg hV, f_X9_fails, pq_bd, pq_ck, pq_bx, rc_lt, pq_i10, pq_i01, pq_upE, pq_udE, pq_uu, pq_gu hg, if_neg h1, not_false_eq_true, not_true_eq_false, and_self, and_true, true_and, and_false, false_and, or_true, true_or, or_false, false_or, if_true, if_false, ↓reduceIte, Decidable.not_not, ne_eq, Int32.reduceLE, Int32.reduceLT, pq_nes, eq_self]
theorem q_note (hX : pq_X rf x) (hR : pq_R σ (x + 2) g n p) (hV : pq_V g n p N) (hg : σ (x + 308 + 1) = g) {u1 : Int32} : pq_Q (f_X8_note rf x u1 σ) (f_X9_note rf (x + 308) u1 σ) σ (x + 308) (fun k cd => (k = 0 ∧ cd = 0) ∨ (k = 2 ∧ cd = 1) ∨ (k = 4 ∧ cd = 2)) := by
  have hK := pq_xk hX
  have hM := pq_xm hX
  have h8 := pq_vn hV
  have h4 := pq_vp hV
  by_cases h1 : ¬ u1 < 0 ∧ u1 < g 0
  · obtain ⟨b, hb, rfl⟩ := pq_ub hV h1
    have hb8 : b < 8 := by omega
    by_cases h2 : g (16 + 6 * b) = 0
    · refine pq_Qm 4 2 (0 : Int32) 0 (by simp) (by simp) ?_ ?_
      · simp (disch := omega) only [f_X8_note, pq_bd, pq_ck, pq_bx, rc_lt, pq_i10, pq_i01, pq_x1 hX, pq_x2 hX, pq_x5 hX, pq_x6 hX, pq_x8 hX, pq_k0 hK, pq_k1 hK, pq_k3 hK, pq_k4 hK, pq_kp hK, pq_ks hK, q8_fi hX hR hV hb h1, h2, pq_bxk (show (2 : Nat) ≠ 0 by decide), pq_bxk (show (4 : Nat) ≠ 0 by decide), not_false_eq_true, not_true_eq_false, and_self, and_true, true_and, and_false, false_and, or_true, true_or, or_false, false_or, if_true, if_false, ↓reduceIte, Decidable.not_not, ne_eq, Int32.reduceLE, Int32.reduceLT, pq_nes, eq_self]
      · simp (disch := omega) only [f_X9_note, pq_bd, pq_ck, pq_bx, rc_lt, pq_i10, pq_i01, pq_upE, pq_udE, pq_uu, pq_gu hg, q9_fi hM hg hV hb h1, h2, not_false_eq_true, not_true_eq_false, and_self, and_true, true_and, and_false, false_and, or_true, true_or, or_false, false_or, if_true, if_false, ↓reduceIte, Decidable.not_not, ne_eq, Int32.reduceLE, Int32.reduceLT, pq_nes, eq_self]
    · have hfi : f_X8_filled rf x (Int32.ofNat b) σ = some (0, x + 2 + 7 + b, σ) := by rw [q8_fi hX hR hV hb h1, if_neg h2]
      have hf9 : f_X9_filled rf (x + 308) (Int32.ofNat b) σ = some (0, σ) := by rw [q9_fi hM hg hV hb h1, if_neg h2]
      refine pq_QmE (pq_N g b 0) (by simp) ?_ ?_
      · simp (disch := omega) only [f_X8_note, pq_bd, pq_ck, pq_bx, rc_lt, pq_i10, pq_i01, pq_x1 hX, pq_x2 hX, pq_x5 hX, pq_x6 hX, pq_x8 hX, pq_k0 hK, pq_k1 hK, pq_k3 hK, pq_k4 hK, pq_kp hK, pq_ks hK, hfi, q1_note hR hV hb, not_false_eq_true, not_true_eq_false, and_self, and_true, true_and, and_false, false_and, or_true, true_or, or_false, false_or, if_true, if_false, ↓reduceIte, Decidable.not_not, ne_eq, Int32.reduceLE, Int32.reduceLT, pq_nes, eq_self]
      · simp (disch := omega) only [f_X9_note, pq_bd, pq_ck, pq_bx, rc_lt, pq_i10, pq_i01, pq_upE, pq_udE, pq_uu, pq_gu hg, hf9, q9_note hM (pq_gu hg), not_false_eq_true, not_true_eq_false, and_self, and_true, true_and, and_false, false_and, or_true, true_or, or_false, false_or, if_true, if_false, ↓reduceIte, Decidable.not_not, ne_eq, Int32.reduceLE, Int32.reduceLT, pq_nes, eq_self]
  · refine pq_Qm 2 1 (0 : Int32) 0 (by simp) (by simp) ?_ ?_
    · simp (disch := omega) only [f_X8_note, pq_bd, pq_ck, pq_bx, rc_lt, pq_i10, pq_i01, pq_x1 hX, pq_x2 hX, pq_x5 hX, pq_x6 hX, pq_x8 hX, pq_k0 hK, pq_k1 hK, pq_k3 hK, pq_k4 hK, pq_kp hK, pq_ks hK, f_X8_filled, q8_ex0 hX hR h1, pq_bxk (show (2 : Nat) ≠ 0 by decide), pq_bxk (show (4 : Nat) ≠ 0 by decide), not_false_eq_true, not_true_eq_false, and_self, and_true, true_and, and_false, false_and, or_true, true_or, or_false, false_or, if_true, if_false, ↓reduceIte, Decidable.not_not, ne_eq, Int32.reduceLE, Int32.reduceLT, pq_nes, eq_self]
    · simp (disch := omega) only [f_X9_note, pq_bd, pq_ck, pq_bx, rc_lt, pq_i10, pq_i01, pq_upE, pq_udE, pq_uu, pq_gu hg, q9_fi0 hM hg hV h1, not_false_eq_true, not_true_eq_false, and_self, and_true, true_and, and_false, false_and, or_true, true_or, or_false, false_or, if_true, if_false, ↓reduceIte, Decidable.not_not, ne_eq, Int32.reduceLE, Int32.reduceLT, pq_nes, eq_self]
theorem q_noteIn (hX : pq_X rf x) (hR : pq_R σ (x + 2) g n p) (hV : pq_V g n p N) (hg : σ (x + 308 + 1) = g) {u1 u2 : Int32} : pq_Q (f_X8_noteIn rf x u1 u2 σ) (f_X9_noteIn rf (x + 308) u1 u2 σ) σ (x + 308) (fun k cd => (k = 0 ∧ cd = 0) ∨ (k = 2 ∧ cd = 1) ∨ (k = 4 ∧ cd = 2) ∨ (k = 3 ∧ cd = 3)) := by
  have hK := pq_xk hX
  have hM := pq_xm hX
  have h8 := pq_vn hV
  have h4 := pq_vp hV
  by_cases h1 : ¬ u1 < 0 ∧ u1 < g 0
  · obtain ⟨b, hb, rfl⟩ := pq_ub hV h1
    have hb8 : b < 8 := by omega
    by_cases h2 : g (16 + 6 * b) = 0
    · refine pq_Qm 4 2 (0 : Int32) 0 (by simp) (by simp) ?_ ?_
      · simp (disch := omega) only [f_X8_noteIn, pq_bd, pq_ck, pq_bx, rc_lt, pq_i10, pq_i01, pq_x1 hX, pq_x2 hX, pq_x5 hX, pq_x6 hX, pq_x8 hX, pq_k0 hK, pq_k1 hK, pq_k3 hK, pq_k4 hK, pq_kp hK, pq_ks hK, q8_fi hX hR hV hb h1, h2, pq_bxk (show (2 : Nat) ≠ 0 by decide), pq_bxk (show (4 : Nat) ≠ 0 by decide), not_false_eq_true, not_true_eq_false, and_self, and_true, true_and, and_false, false_and, or_true, true_or, or_false, false_or, if_true, if_false, ↓reduceIte, Decidable.not_not, ne_eq, Int32.reduceLE, Int32.reduceLT, pq_nes, eq_self]
      · simp (disch := omega) only [f_X9_noteIn, pq_bd, pq_ck, pq_bx, rc_lt, pq_i10, pq_i01, pq_upE, pq_udE, pq_uu, pq_gu hg, q9_fi hM hg hV hb h1, h2, not_false_eq_true, not_true_eq_false, and_self, and_true, true_and, and_false, false_and, or_true, true_or, or_false, false_or, if_true, if_false, ↓reduceIte, Decidable.not_not, ne_eq, Int32.reduceLE, Int32.reduceLT, pq_nes, eq_self]
    · have hfi : f_X8_filled rf x (Int32.ofNat b) σ = some (0, x + 2 + 7 + b, σ) := by rw [q8_fi hX hR hV hb h1, if_neg h2]
      have hf9 : f_X9_filled rf (x + 308) (Int32.ofNat b) σ = some (0, σ) := by rw [q9_fi hM hg hV hb h1, if_neg h2]
      by_cases h3 : ¬ u2 < 0 ∧ ¬ 20 < u2
      · refine pq_QmE (pq_N g b u2) (by simp) ?_ ?_
        · simp (disch := omega) only [f_X8_noteIn, pq_bd, pq_ck, pq_bx, rc_lt, pq_i10, pq_i01, pq_x1 hX, pq_x2 hX, pq_x5 hX, pq_x6 hX, pq_x8 hX, pq_k0 hK, pq_k1 hK, pq_k3 hK, pq_k4 hK, pq_kp hK, pq_ks hK, hfi, q8_out, if_pos h3, pq_c3 hR, q1_ageY hR hb, q1_at hR hV hb, pq_n0 hV hb (Or.inr h2), not_false_eq_true, not_true_eq_false, and_self, and_true, true_and, and_false, false_and, or_true, true_or, or_false, false_or, if_true, if_false, ↓reduceIte, Decidable.not_not, ne_eq, Int32.reduceLE, Int32.reduceLT, pq_nes, eq_self]
        · simp (disch := omega) only [f_X9_noteIn, pq_bd, pq_ck, pq_bx, rc_lt, pq_i10, pq_i01, pq_upE, pq_udE, pq_uu, pq_gu hg, hf9, q9_in, if_pos h3, q9_note hM (pq_gu hg), not_false_eq_true, not_true_eq_false, and_self, and_true, true_and, and_false, false_and, or_true, true_or, or_false, false_or, if_true, if_false, ↓reduceIte, Decidable.not_not, ne_eq, Int32.reduceLE, Int32.reduceLT, pq_nes, eq_self]
      · refine pq_Qm 3 3 (0 : Int32) 0 (by simp) (by simp) ?_ ?_
        · simp (disch := omega) only [f_X8_noteIn, pq_bd, pq_ck, pq_bx, rc_lt, pq_i10, pq_i01, pq_x1 hX, pq_x2 hX, pq_x5 hX, pq_x6 hX, pq_x8 hX, pq_k0 hK, pq_k1 hK, pq_k3 hK, pq_k4 hK, pq_kp hK, pq_ks hK, hfi, q8_out, if_neg h3, not_false_eq_true, not_true_eq_false, and_self, and_true, true_and, and_false, false_and, or_true, true_or, or_false, false_or, if_true, if_false, ↓reduceIte, Decidable.not_not, ne_eq, Int32.reduceLE, Int32.reduceLT, pq_nes, eq_self]
        · simp (disch := omega) only [f_X9_noteIn, pq_bd, pq_ck, pq_bx, rc_lt, pq_i10, pq_i01, pq_upE, pq_udE, pq_uu, pq_gu hg, hf9, q9_in, if_neg h3, not_false_eq_true, not_true_eq_false, and_self, and_true, true_and, and_false, false_and, or_true, true_or, or_false, false_or, if_true, if_false, ↓reduceIte, Decidable.not_not, ne_eq, Int32.reduceLE, Int32.reduceLT, pq_nes, eq_self]
  · refine pq_Qm 2 1 (0 : Int32) 0 (by simp) (by simp) ?_ ?_
    · simp (disch := omega) only [f_X8_noteIn, pq_bd, pq_ck, pq_bx, rc_lt, pq_i10, pq_i01, pq_x1 hX, pq_x2 hX, pq_x5 hX, pq_x6 hX, pq_x8 hX, pq_k0 hK, pq_k1 hK, pq_k3 hK, pq_k4 hK, pq_kp hK, pq_ks hK, f_X8_filled, q8_ex0 hX hR h1, pq_bxk (show (2 : Nat) ≠ 0 by decide), pq_bxk (show (4 : Nat) ≠ 0 by decide), not_false_eq_true, not_true_eq_false, and_self, and_true, true_and, and_false, false_and, or_true, true_or, or_false, false_or, if_true, if_false, ↓reduceIte, Decidable.not_not, ne_eq, Int32.reduceLE, Int32.reduceLT, pq_nes, eq_self]
    · simp (disch := omega) only [f_X9_noteIn, pq_bd, pq_ck, pq_bx, rc_lt, pq_i10, pq_i01, pq_upE, pq_udE, pq_uu, pq_gu hg, q9_fi0 hM hg hV h1, not_false_eq_true, not_true_eq_false, and_self, and_true, true_and, and_false, false_and, or_true, true_or, or_false, false_or, if_true, if_false, ↓reduceIte, Decidable.not_not, ne_eq, Int32.reduceLE, Int32.reduceLT, pq_nes, eq_self]
theorem q_notices (hX : pq_X rf x) (hR : pq_R σ (x + 2) g n p) (hV : pq_V g n p N) (hg : σ (x + 308 + 1) = g) {u1 u2 : Int32} : pq_Q (f_X8_notices rf x u1 u2 σ) (f_X9_notices rf (x + 308) u1 u2 σ) σ (x + 308) (fun k cd => (k = 0 ∧ cd = 0) ∨ (k = 2 ∧ cd = 1)) := by
  have hK := pq_xk hX
  have hM := pq_xm hX
  have h8 := pq_vn hV
  have h4 := pq_vp hV
  by_cases h1 : ¬ u1 < 0 ∧ u1 < g 1
  · obtain ⟨j, hj, rfl⟩ := pq_us hV h1
    by_cases h2 : ¬ u2 < 0 ∧ u2 < g 0
    · obtain ⟨b, hb, rfl⟩ := pq_ub hV h2
      refine pq_QmE (if ¬ pq_P g b ≤ 0 ∧ ¬ pq_P g b ≤ 50 - 5 * (g (63 + 2 * j) + 2 * g (64 + 2 * j)) then (1 : Int32) else 0) (by simp) ?_ ?_
      · simp (disch := omega) only [f_X8_notices, q3_has hR, pq_bd, pq_ck, pq_bx, rc_lt, pq_i10, pq_i01, pq_x1 hX, pq_x2 hX, pq_x5 hX, pq_x6 hX, pq_x8 hX, pq_k0 hK, pq_k1 hK, pq_k3 hK, pq_k4 hK, pq_kp hK, pq_ks hK,  h1, q8_ex hX hR hV hb h2, q1_part hR hV hb, q3_notice hK hR hV hj, pq_cd pq_nb, not_false_eq_true, not_true_eq_false, and_self, and_true, true_and, and_false, false_and, or_true, true_or, or_false, false_or, if_true, if_false, ↓reduceIte, Decidable.not_not, ne_eq, Int32.reduceLE, Int32.reduceLT, pq_nes, eq_self]
      · simp (disch := omega) only [f_X9_notices, q9_isS hM hg hV, q9_isB hM hg hV, pq_bd, pq_ck, pq_bx, rc_lt, pq_i10, pq_i01, pq_upE, pq_udE, pq_uu, pq_gu hg,  if_pos h1, if_pos h2, q9_part hM (pq_gu hg), q9_notes hM (pq_gu hg), not_false_eq_true, not_true_eq_false, and_self, and_true, true_and, and_false, false_and, or_true, true_or, or_false, false_or, if_true, if_false, ↓reduceIte, Decidable.not_not, ne_eq, Int32.reduceLE, Int32.reduceLT, pq_nes, eq_self]
        by_cases h5 : ¬ pq_P g b ≤ 0 ∧ ¬ pq_P g b ≤ 50 - 5 * (g (63 + 2 * j) + 2 * g (64 + 2 * j))
        · rw [if_neg (not_not_intro h5), if_pos h5]
        · rw [if_pos h5, if_neg h5]
    · refine pq_Qm 2 1 (0 : Int32) 0 (by simp) (by simp) ?_ ?_
      · simp (disch := omega) only [f_X8_notices, q3_has hR, pq_bd, pq_ck, pq_bx, rc_lt, pq_i10, pq_i01, pq_x1 hX, pq_x2 hX, pq_x5 hX, pq_x6 hX, pq_x8 hX, pq_k0 hK, pq_k1 hK, pq_k3 hK, pq_k4 hK, pq_kp hK, pq_ks hK, h1, q8_ex0 hX hR h2, pq_bxk (show (2 : Nat) ≠ 0 by decide), pq_bxk (show (4 : Nat) ≠ 0 by decide), not_false_eq_true, not_true_eq_false, and_self, and_true, true_and, and_false, false_and, or_true, true_or, or_false, false_or, if_true, if_false, ↓reduceIte, Decidable.not_not, ne_eq, Int32.reduceLE, Int32.reduceLT, pq_nes, eq_self]
      · simp (disch := omega) only [f_X9_notices, q9_isS hM hg hV, q9_isB hM hg hV, pq_bd, pq_ck, pq_bx, rc_lt, pq_i10, pq_i01, pq_upE, pq_udE, pq_uu, pq_gu hg, if_pos h1, if_neg h2, not_false_eq_true, not_true_eq_false, and_self, and_true, true_and, and_false, false_and, or_true, true_or, or_false, false_or, if_true, if_false, ↓reduceIte, Decidable.not_not, ne_eq, Int32.reduceLE, Int32.reduceLT, pq_nes, eq_self]
  · refine pq_Qm 2 1 (0 : Int32) 0 (by simp) (by simp) ?_ ?_
    · simp (disch := omega) only [f_X8_notices, q3_has hR, pq_bd, pq_ck, pq_bx, rc_lt, pq_i10, pq_i01, pq_x1 hX, pq_x2 hX, pq_x5 hX, pq_x6 hX, pq_x8 hX, pq_k0 hK, pq_k1 hK, pq_k3 hK, pq_k4 hK, pq_kp hK, pq_ks hK, if_pos h1, not_false_eq_true, not_true_eq_false, and_self, and_true, true_and, and_false, false_and, or_true, true_or, or_false, false_or, if_true, if_false, ↓reduceIte, Decidable.not_not, ne_eq, Int32.reduceLE, Int32.reduceLT, pq_nes, eq_self]
    · simp (disch := omega) only [f_X9_notices, q9_isS hM hg hV, q9_isB hM hg hV, pq_bd, pq_ck, pq_bx, rc_lt, pq_i10, pq_i01, pq_upE, pq_udE, pq_uu, pq_gu hg, if_neg h1, not_false_eq_true, not_true_eq_false, and_self, and_true, true_and, and_false, false_and, or_true, true_or, or_false, false_or, if_true, if_false, ↓reduceIte, Decidable.not_not, ne_eq, Int32.reduceLE, Int32.reduceLT, pq_nes, eq_self]
theorem q_noticing (hX : pq_X rf x) (hR : pq_R σ (x + 2) g n p) (hV : pq_V g n p N) (hg : σ (x + 308 + 1) = g) {u1 : Int32} : pq_Q (f_X8_noticing rf x u1 σ) (f_X9_noticing rf (x + 308) u1 σ) σ (x + 308) (fun k cd => (k = 0 ∧ cd = 0) ∨ (k = 2 ∧ cd = 1)) := by
  have hK := pq_xk hX
  have hM := pq_xm hX
  have h8 := pq_vn hV
  have h4 := pq_vp hV
  by_cases h1 : ¬ u1 < 0 ∧ u1 < g 0
  · obtain ⟨b, hb, rfl⟩ := pq_ub hV h1
    refine pq_QmE (pq_ns g p (pq_P g b)) (by simp) ?_ ?_
    · simp (disch := omega) only [f_X8_noticing, pq_bd, pq_ck, pq_bx, rc_lt, pq_i10, pq_i01, pq_x1 hX, pq_x2 hX, pq_x5 hX, pq_x6 hX, pq_x8 hX, pq_k0 hK, pq_k1 hK, pq_k3 hK, pq_k4 hK, pq_kp hK, pq_ks hK, q8_ex hX hR hV hb h1, q1_part hR hV hb, q_3_noses hK hR hV, not_false_eq_true, not_true_eq_false, and_self, and_true, true_and, and_false, false_and, or_true, true_or, or_false, false_or, if_true, if_false, ↓reduceIte, Decidable.not_not, ne_eq, Int32.reduceLE, Int32.reduceLT, pq_nes, eq_self]
    · simp (disch := omega) only [f_X9_noticing, q9_isB hM hg hV, pq_bd, pq_ck, pq_bx, rc_lt, pq_i10, pq_i01, pq_upE, pq_udE, pq_uu, pq_gu hg, if_pos h1, q9_part hM (pq_gu hg), q_9_noses hM (pq_gu hg) hV, not_false_eq_true, not_true_eq_false, and_self, and_true, true_and, and_false, false_and, or_true, true_or, or_false, false_or, if_true, if_false, ↓reduceIte, Decidable.not_not, ne_eq, Int32.reduceLE, Int32.reduceLT, pq_nes, eq_self]
  · refine pq_Qm 2 1 (0 : Int32) 0 (by simp) (by simp) ?_ ?_
    · simp (disch := omega) only [f_X8_noticing, pq_bd, pq_ck, pq_bx, rc_lt, pq_i10, pq_i01, pq_x1 hX, pq_x2 hX, pq_x5 hX, pq_x6 hX, pq_x8 hX, pq_k0 hK, pq_k1 hK, pq_k3 hK, pq_k4 hK, pq_kp hK, pq_ks hK, q8_ex0 hX hR h1, pq_bxk (show (2 : Nat) ≠ 0 by decide), pq_bxk (show (4 : Nat) ≠ 0 by decide), not_false_eq_true, not_true_eq_false, and_self, and_true, true_and, and_false, false_and, or_true, true_or, or_false, false_or, if_true, if_false, ↓reduceIte, Decidable.not_not, ne_eq, Int32.reduceLE, Int32.reduceLT, pq_nes, eq_self]
    · simp (disch := omega) only [f_X9_noticing, q9_isB hM hg hV, pq_bd, pq_ck, pq_bx, rc_lt, pq_i10, pq_i01, pq_upE, pq_udE, pq_uu, pq_gu hg, if_neg h1, not_false_eq_true, not_true_eq_false, and_self, and_true, true_and, and_false, false_and, or_true, true_or, or_false, false_or, if_true, if_false, ↓reduceIte, Decidable.not_not, ne_eq, Int32.reduceLE, Int32.reduceLT, pq_nes, eq_self]
theorem q_canPour (hX : pq_X rf x) (hR : pq_R σ (x + 2) g n p) (hV : pq_V g n p N) (hg : σ (x + 308 + 1) = g) {u1 u2 : Int32} : pq_Q (f_X8_canPour rf x u1 u2 σ) (f_X9_canPour rf (x + 308) u1 u2 σ) σ (x + 308) (fun k cd => (k = 0 ∧ cd = 0) ∨ (k = 2 ∧ cd = 1)) := by
  have hK := pq_xk hX
  have hM := pq_xm hX
  have h8 := pq_vn hV
  have h4 := pq_vp hV
  by_cases h1 : ¬ u1 < 0 ∧ u1 < g 0
  · obtain ⟨a, ha, rfl⟩ := pq_ub hV h1
    by_cases h2 : ¬ u2 < 0 ∧ u2 < g 0
    · obtain ⟨b, hb, rfl⟩ := pq_ub hV h2
      have va := pq_vh hV ha
      have vb := pq_vh hV hb
      have wa := pq_i0 (Int.le_trans va.1 va.2.1)
      have wb := pq_i0 (Int.le_trans vb.1 vb.2.1)
      have wc := pq_i20 vb.2.2
      have e1 : (g (16 + 6 * a) ≤ 0) = (g (16 + 6 * a) = 0) := by apply propext; constructor <;> intro q <;> grind
      have e2 : ((20 : Int32) - g (16 + 6 * b) ≤ 0) = (20 ≤ g (16 + 6 * b)) := by apply propext; constructor <;> intro q <;> grind
      have e3 : g (16 + 6 * b) = 0 → ¬ (20 : Int32) ≤ g (16 + 6 * b) := by intro q; rw [q]; decide
      refine pq_QmE (if Int32.ofNat a = Int32.ofNat b ∨ g (16 + 6 * a) = 0 then 0 else if g (16 + 6 * b) = 0 then 1 else if g (18 + 6 * b) = g (18 + 6 * a) ∧ ¬ 20 ≤ g (16 + 6 * b) then 1 else 0) (by simp) ?_ ?_
      · simp (disch := omega) only [f_X8_canPour, pq_bd, pq_ck, pq_bx, rc_lt, pq_i10, pq_i01, pq_x1 hX, pq_x2 hX, pq_x5 hX, pq_x6 hX, pq_x8 hX, pq_k0 hK, pq_k1 hK, pq_k3 hK, pq_k4 hK, pq_kp hK, pq_ks hK,  q8_ex hX hR hV ha h1, q8_ex hX hR hV hb h2, f_X0_room, f_X0_isFreeFor, q0_empty, pq_b1 hR, pq_b3 hR, e1, e2, not_false_eq_true, not_true_eq_false, and_self, and_true, true_and, and_false, false_and, or_true, true_or, or_false, false_or, if_true, if_false, ↓reduceIte, Decidable.not_not, ne_eq, Int32.reduceLE, Int32.reduceLT, pq_nes, eq_self]
        by_cases c1 : Int32.ofNat a = Int32.ofNat b <;> by_cases c2 : g (16 + 6 * a) = 0 <;> by_cases c3 : g (16 + 6 * b) = 0 <;> by_cases c4 : g (18 + 6 * b) = g (18 + 6 * a) <;> by_cases c5 : (20 : Int32) ≤ g (16 + 6 * b) <;> first | exact absurd c5 (e3 c3) | simp [c1, c2, c3, c4, c5, pq_bd]
      · simp (disch := omega) only [f_X9_canPour, q9_isB hM hg hV, pq_bd, pq_ck, pq_bx, rc_lt, pq_i10, pq_i01, pq_upE, pq_udE, pq_uu, pq_gu hg,  if_pos h1, if_pos h2, q9_of1 hM (pq_gu hg), q9_of3 hM (pq_gu hg), not_false_eq_true, not_true_eq_false, and_self, and_true, true_and, and_false, false_and, or_true, true_or, or_false, false_or, if_true, if_false, ↓reduceIte, Decidable.not_not, ne_eq, Int32.reduceLE, Int32.reduceLT, pq_nes, eq_self]
        by_cases c1 : Int32.ofNat a = Int32.ofNat b <;> by_cases c2 : g (16 + 6 * a) = 0 <;> by_cases c3 : g (16 + 6 * b) = 0 <;> by_cases c4 : g (18 + 6 * b) = g (18 + 6 * a) <;> by_cases c5 : (20 : Int32) ≤ g (16 + 6 * b) <;> simp [c1, c2, c3, c4, c5]
    · refine pq_Qm 2 1 (0 : Int32) 0 (by simp) (by simp) ?_ ?_
      · simp (disch := omega) only [f_X8_canPour, pq_bd, pq_ck, pq_bx, rc_lt, pq_i10, pq_i01, pq_x1 hX, pq_x2 hX, pq_x5 hX, pq_x6 hX, pq_x8 hX, pq_k0 hK, pq_k1 hK, pq_k3 hK, pq_k4 hK, pq_kp hK, pq_ks hK, q8_ex hX hR hV ha h1, q8_ex0 hX hR h2, pq_bxk (show (2 : Nat) ≠ 0 by decide), pq_bxk (show (4 : Nat) ≠ 0 by decide), not_false_eq_true, not_true_eq_false, and_self, and_true, true_and, and_false, false_and, or_true, true_or, or_false, false_or, if_true, if_false, ↓reduceIte, Decidable.not_not, ne_eq, Int32.reduceLE, Int32.reduceLT, pq_nes, eq_self]
      · simp (disch := omega) only [f_X9_canPour, q9_isB hM hg hV, pq_bd, pq_ck, pq_bx, rc_lt, pq_i10, pq_i01, pq_upE, pq_udE, pq_uu, pq_gu hg, if_pos h1, if_neg h2, not_false_eq_true, not_true_eq_false, and_self, and_true, true_and, and_false, false_and, or_true, true_or, or_false, false_or, if_true, if_false, ↓reduceIte, Decidable.not_not, ne_eq, Int32.reduceLE, Int32.reduceLT, pq_nes, eq_self]
  · refine pq_Qm 2 1 (0 : Int32) 0 (by simp) (by simp) ?_ ?_
    · simp (disch := omega) only [f_X8_canPour, pq_bd, pq_ck, pq_bx, rc_lt, pq_i10, pq_i01, pq_x1 hX, pq_x2 hX, pq_x5 hX, pq_x6 hX, pq_x8 hX, pq_k0 hK, pq_k1 hK, pq_k3 hK, pq_k4 hK, pq_kp hK, pq_ks hK, q8_ex0 hX hR h1, pq_bxk (show (2 : Nat) ≠ 0 by decide), pq_bxk (show (4 : Nat) ≠ 0 by decide), not_false_eq_true, not_true_eq_false, and_self, and_true, true_and, and_false, false_and, or_true, true_or, or_false, false_or, if_true, if_false, ↓reduceIte, Decidable.not_not, ne_eq, Int32.reduceLE, Int32.reduceLT, pq_nes, eq_self]
    · simp (disch := omega) only [f_X9_canPour, q9_isB hM hg hV, pq_bd, pq_ck, pq_bx, rc_lt, pq_i10, pq_i01, pq_upE, pq_udE, pq_uu, pq_gu hg, if_neg h1, not_false_eq_true, not_true_eq_false, and_self, and_true, true_and, and_false, false_and, or_true, true_or, or_false, false_or, if_true, if_false, ↓reduceIte, Decidable.not_not, ne_eq, Int32.reduceLE, Int32.reduceLT, pq_nes, eq_self]
end PQQ
