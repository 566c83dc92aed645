theorem pq_xor {a b : Int32} (ha : 0 ≤ a) (hb : 0 ≤ b) : 0 ≤ (a ^^^ b) := by
  rw [Int32.le_iff_toInt_le, Int32.toInt_zero] at *
  rw [← Int32.toInt_toBitVec] at *
  rw [Int32.toBitVec_xor]
  have h1 : a.toBitVec.msb = false := by rw [BitVec.msb_eq_toInt]; simp; exact ha
  have h2 : b.toBitVec.msb = false := by rw [BitVec.msb_eq_toInt]; simp; exact hb
  have h3 : (a.toBitVec ^^^ b.toBitVec).msb = false := by rw [BitVec.msb_xor, h1, h2]; rfl
  rw [BitVec.msb_eq_toInt] at h3
  simpa using h3
theorem pq_md {s k : Nat} (hk0 : 0 < k) (hs : s < 2147483648) (hk : k < 2147483648) : Int32.ofNat s - Int32.ofNat s / Int32.ofNat k * Int32.ofNat k = Int32.ofNat (s % k) := by
  rw [← Int32.ofNat_div hs hk, ← Int32.ofNat_mul, ← Int32.ofNat_sub _ _ (Nat.div_mul_le_self s k)]
  congr 1
  have := Nat.div_add_mod s k
  rw [Nat.mul_comm] at this
  omega
theorem pq_fm {rf : rc_F} {σ : rc_S} {s k : Nat} (hk0 : 0 < k) (hs : s < 2147483648) (hk : k < 2147483648) : f_J9_floorMod_7cf53 rf (Int32.ofNat s) (Int32.ofNat k) σ = some (Int32.ofNat (s % k), σ) := by
  have hz : ¬ Int32.ofNat k = 0 := fun q => by
    have := (pq_eq hk (show 0 < 2147483648 by decide)).mp q
    omega
  rw [f_J9_floorMod_7cf53, pq_cd hz, rc_lt, pq_md hk0 hs hk, if_pos (pq_xor (Int32.zero_le_ofNat_of_lt hs) (Int32.zero_le_ofNat_of_lt hk))]
theorem pq_fm12 {rf : rc_F} {σ : rc_S} {s : Nat} (hs : s < 2147483648) : f_J9_floorMod_7cf53 rf (Int32.ofNat s) 12 σ = some (Int32.ofNat (s % 12), σ) := pq_fm (by decide) hs (by decide)
theorem pq_fm9 {rf : rc_F} {σ : rc_S} {s : Nat} (hs : s < 2147483648) : f_J9_floorMod_7cf53 rf (Int32.ofNat s) 9 σ = some (Int32.ofNat (s % 9), σ) := pq_fm (by decide) hs (by decide)
theorem pq_md12 {s : Nat} (hs : s < 2147483648) : Int32.ofNat s - Int32.ofNat s / 12 * 12 = Int32.ofNat (s % 12) := pq_md (by decide) hs (by decide)
theorem pq_rx {q w : Nat} : (71 : Int32) + 3 * Int32.ofNat q + Int32.ofNat w = Int32.ofNat (71 + 3 * q + w) := by rw [Int32.ofNat_add, Int32.ofNat_add, Int32.ofNat_mul]; rfl
theorem pq_rx0 {q : Nat} : (71 : Int32) + 3 * Int32.ofNat q + 0 = Int32.ofNat (71 + 3 * q) := pq_rx (w := 0)
theorem pq_rx1 {q : Nat} : (71 : Int32) + 3 * Int32.ofNat q + 1 = Int32.ofNat (72 + 3 * q) := by rw [show 72 + 3 * q = 71 + 3 * q + 1 from by omega]; exact pq_rx (w := 1)
theorem pq_rx2 {q : Nat} : (71 : Int32) + 3 * Int32.ofNat q + 2 = Int32.ofNat (73 + 3 * q) := by rw [show 73 + 3 * q = 71 + 3 * q + 2 from by omega]; exact pq_rx (w := 2)
theorem pq_m12 {s : Nat} : s % 12 < 12 := Nat.mod_lt _ (by decide)
theorem pq_fdN {h : Nat → Int32} {n M : Nat} (hh : ∀ b, b < n → ∃ v, v ≤ M ∧ h b = Int32.ofNat v) : ∀ (d i : Nat) (acc : Int32) (A : Nat), acc = Int32.ofNat A → i + d = n → ∃ K, K ≤ A + M * d ∧ pq_fd (fun b a => a + h b) i d acc = Int32.ofNat K := by
  intro d
  induction d with
  | zero => intro i acc A ha _; exact ⟨A, by omega, ha⟩
  | succ d ih =>
    intro i acc A ha hi
    obtain ⟨v, hv, e⟩ := hh i (by omega)
    obtain ⟨K, hK, e2⟩ := ih (i + 1) (acc + h i) (A + v) (by rw [ha, e, Int32.ofNat_add]) (by omega)
    exact ⟨K, by rw [Nat.mul_succ]; omega, e2⟩
theorem pq_fdE {f h : Nat → Int32 → Int32} {n : Nat} (hh : ∀ b a, b < n → f b a = h b a) : ∀ (d i : Nat) (acc : Int32), i + d = n → pq_fd f i d acc = pq_fd h i d acc := by
  intro d
  induction d with
  | zero => intro i acc _; rfl
  | succ d ih => intro i acc hi; rw [pq_fd, pq_fd, hh i acc (by omega), ih (i + 1) _ (by omega)]
def pq_Q2 {α : Type} (A B : Option (α × rc_S)) (σ : rc_S) (m : Nat) : Prop := ∃ v : α, A = some (v, σ) ∧ B = some (v, rc_up σ m 0 0)
section PQQ4
variable {rf : rc_F} {σ : rc_S} {x : Nat} {g : Nat → Int32} {n p N b : Nat}

theorem q9_vint {m : Nat} (hM : pq_M rf m) (hg : σ (m + 1) = g) (hV : pq_V g n p N) {r : Int32} {K : Int32 → Int32 → rc_S → Option (Int32 × rc_S)} : f_X9_vintage_38 rf m r K rc_fu 0 0 σ = K (pq_fd (fun b a => if g (18 + 6 * b) = r then a + g (16 + 6 * b) else a) 0 n 0) (Int32.ofNat n) σ := by
  have hx := pq_vn hV
  rw [pq_fu n (by omega)]
  exact q_9_vintage_38 hM hg hV r K n (99999 - n) 0 0 (by omega)

theorem q_vintage (hX : pq_X rf x) (hR : pq_R σ (x + 2) g n p) (hV : pq_V g n p N) (hg : σ (x + 308 + 1) = g) {u1 : Int32} : pq_Q (f_X8_vintage rf x u1 σ) (f_X9_vintage rf (x + 308) u1 σ) σ (x + 308) (fun k cd => (k = 0 ∧ cd = 0) ∨ (k = 4 ∧ cd = 1)) := by
  have hK := pq_xk hX
  have hM := pq_xm hX
  have h8 := pq_vn hV
  have h4 := pq_vp hV
  by_cases h1 : ¬ u1 < 0 ∧ ¬ g 4 - 1 < u1
  · refine pq_QmE (pq_fd (fun b a => if g (18 + 6 * b) = u1 then a + g (16 + 6 * b) else a) 0 n 0) (by simp) ?_ ?_
    · simp (disch := omega) only [f_X8_vintage, q8_out, pq_c4 hR, pq_bd, pq_ck, pq_bx, rc_lt, pq_i10, pq_i01, pq_x1 hX, pq_x2 hX, pq_x5 hX, pq_x6 hX, pq_x8 hX, pq_k0 hK, pq_k1 hK, pq_k3 hK, pq_k4 hK, pq_kp hK, pq_ks hK, if_pos h1, q_1_litresOfStorm hK hR hV, not_false_eq_true, not_true_eq_false, and_self, and_true, true_and, and_false, false_and, or_true, true_or, or_false, false_or, if_true, if_false, ↓reduceIte, Decidable.not_not, ne_eq, Int32.reduceLE, Int32.reduceLT, pq_nes, eq_self]
    · simp (disch := omega) only [f_X9_vintage, q9_in, pq_m1 hM, hg, pq_bd, pq_ck, pq_bx, rc_lt, pq_i10, pq_i01, pq_upE, pq_udE, pq_uu, pq_gu hg, if_pos h1, q9_vint hM (pq_gu hg) hV, not_false_eq_true, not_true_eq_false, and_self, and_true, true_and, and_false, false_and, or_true, true_or, or_false, false_or, if_true, if_false, ↓reduceIte, Decidable.not_not, ne_eq, Int32.reduceLE, Int32.reduceLT, pq_nes, eq_self]
  · refine pq_Qm 4 1 (0 : Int32) 0 (by simp) (by simp) ?_ ?_
    · simp (disch := omega) only [f_X8_vintage, q8_out, pq_c4 hR, pq_bd, pq_ck, pq_bx, rc_lt, pq_i10, pq_i01, pq_x1 hX, pq_x2 hX, pq_x5 hX, pq_x6 hX, pq_x8 hX, pq_k0 hK, pq_k1 hK, pq_k3 hK, pq_k4 hK, pq_kp hK, pq_ks hK, if_neg h1, not_false_eq_true, not_true_eq_false, and_self, and_true, true_and, and_false, false_and, or_true, true_or, or_false, false_or, if_true, if_false, ↓reduceIte, Decidable.not_not, ne_eq, Int32.reduceLE, Int32.reduceLT, pq_nes, eq_self]
    · simp (disch := omega) only [f_X9_vintage, q9_in, pq_m1 hM, hg, pq_bd, pq_ck, pq_bx, rc_lt, pq_i10, pq_i01, pq_upE, pq_udE, pq_uu, pq_gu hg, if_neg h1, not_false_eq_true, not_true_eq_false, and_self, and_true, true_and, and_false, false_and, or_true, true_or, or_false, false_or, if_true, if_false, ↓reduceIte, Decidable.not_not, ne_eq, Int32.reduceLE, Int32.reduceLT, pq_nes, eq_self]
theorem q_stormOf (hX : pq_X rf x) (hR : pq_R σ (x + 2) g n p) (hV : pq_V g n p N) (hg : σ (x + 308 + 1) = g) {u1 u2 : Int32} : pq_Q (f_X8_stormOf rf x u1 u2 σ) (f_X9_stormOf rf (x + 308) u1 u2 σ) σ (x + 308) (fun k cd => (k = 0 ∧ cd = 0) ∨ (k = 4 ∧ cd = 1) ∨ (k = 3 ∧ cd = 2)) := by
  have hK := pq_xk hX
  have hM := pq_xm hX
  have h8 := pq_vn hV
  have h4 := pq_vp hV
  by_cases h1 : u1 < 0
  · refine pq_Qm 4 1 (0 : Int32) 0 (by simp) (by simp) ?_ ?_
    · simp (disch := omega) only [f_X8_stormOf, f_X1_isLateStorm, f_X1_rainfallOf, pq_c4 hR, pq_bd, pq_ck, pq_bx, rc_lt, pq_i10, pq_i01, pq_x1 hX, pq_x2 hX, pq_x5 hX, pq_x6 hX, pq_x8 hX, pq_k0 hK, pq_k1 hK, pq_k3 hK, pq_k4 hK, pq_kp hK, pq_ks hK, h1, not_false_eq_true, not_true_eq_false, and_self, and_true, true_and, and_false, false_and, or_true, true_or, or_false, false_or, if_true, if_false, ↓reduceIte, Decidable.not_not, ne_eq, Int32.reduceLE, Int32.reduceLT, pq_nes, eq_self]
    · simp (disch := omega) only [f_X9_stormOf, q9_in, pq_m1 hM, hg, pq_bd, pq_ck, pq_bx, rc_lt, pq_i10, pq_i01, pq_upE, pq_udE, pq_uu, pq_gu hg, h1, not_false_eq_true, not_true_eq_false, and_self, and_true, true_and, and_false, false_and, or_true, true_or, or_false, false_or, if_true, if_false, ↓reduceIte, Decidable.not_not, ne_eq, Int32.reduceLE, Int32.reduceLT, pq_nes, eq_self]
  · by_cases h2 : g 4 ≤ u1
    · refine pq_Qm 4 1 (0 : Int32) 0 (by simp) (by simp) ?_ ?_
      · simp (disch := omega) only [f_X8_stormOf, f_X1_isLateStorm, f_X1_rainfallOf, pq_c4 hR, pq_bd, pq_ck, pq_bx, rc_lt, pq_i10, pq_i01, pq_x1 hX, pq_x2 hX, pq_x5 hX, pq_x6 hX, pq_x8 hX, pq_k0 hK, pq_k1 hK, pq_k3 hK, pq_k4 hK, pq_kp hK, pq_ks hK, h1, h2, not_false_eq_true, not_true_eq_false, and_self, and_true, true_and, and_false, false_and, or_true, true_or, or_false, false_or, if_true, if_false, ↓reduceIte, Decidable.not_not, ne_eq, Int32.reduceLE, Int32.reduceLT, pq_nes, eq_self]
      · simp (disch := omega) only [f_X9_stormOf, q9_in, pq_m1 hM, hg, pq_bd, pq_ck, pq_bx, rc_lt, pq_i10, pq_i01, pq_upE, pq_udE, pq_uu, pq_gu hg, h1, h2, not_false_eq_true, not_true_eq_false, and_self, and_true, true_and, and_false, false_and, or_true, true_or, or_false, false_or, if_true, if_false, ↓reduceIte, Decidable.not_not, ne_eq, Int32.reduceLE, Int32.reduceLT, pq_nes, eq_self]
    · by_cases h3 : g 4 - 12 ≤ u1
      · obtain ⟨s, hs, rfl⟩ : ∃ s : Nat, s < 2147483648 ∧ u1 = Int32.ofNat s := by
          obtain ⟨G, hG, e⟩ := pq_natL (pq_v4 hV).1 (show (g 4).toInt ≤ (2147483647 : Nat) by have := Int32.toInt_lt (g 4); omega) (by decide)
          obtain ⟨s, hs, e2⟩ := pq_nat h1 (show u1 < Int32.ofNat G by rw [← e]; exact Int32.not_le.mp h2) (by omega)
          exact ⟨s, by omega, e2⟩
        have hm := pq_m12 (s := s)
        have h3' : ¬ Int32.ofNat s < g 4 - 12 := Int32.not_lt.mpr h3
        by_cases h4 : ¬ u2 < 0 ∧ ¬ 2 < u2
        · rcases pq_3 h4 with rfl | rfl | rfl
          · refine pq_QmE (g (71 + 3 * (s % 12))) (by simp) ?_ ?_
            · simp (disch := omega) only [f_X8_stormOf, f_X1_isLateStorm, f_X1_rainfallOf, pq_c4 hR, pq_bd, pq_ck, pq_bx, rc_lt, pq_i10, pq_i01, pq_x1 hX, pq_x2 hX, pq_x5 hX, pq_x6 hX, pq_x8 hX, pq_k0 hK, pq_k1 hK, pq_k3 hK, pq_k4 hK, pq_kp hK, pq_ks hK, h1, h2, h3', pq_fm12, pq_in, pq_cl, pq_kr hK, pq_q0 hR, not_false_eq_true, not_true_eq_false, and_self, and_true, true_and, and_false, false_and, or_true, true_or, or_false, false_or, if_true, if_false, ↓reduceIte, Decidable.not_not, ne_eq, Int32.reduceLE, Int32.reduceLT, pq_nes, eq_self]
            · simp (disch := omega) only [f_X9_stormOf, q9_in, pq_m1 hM, hg, pq_bd, pq_ck, pq_bx, rc_lt, pq_i10, pq_i01, pq_upE, pq_udE, pq_uu, pq_gu hg, h1, h2, h3, pq_md12, pq_rx0, pq_in, pq_cl, not_false_eq_true, not_true_eq_false, and_self, and_true, true_and, and_false, false_and, or_true, true_or, or_false, false_or, if_true, if_false, ↓reduceIte, Decidable.not_not, ne_eq, Int32.reduceLE, Int32.reduceLT, pq_nes, eq_self]
          · refine pq_QmE (g (72 + 3 * (s % 12))) (by simp) ?_ ?_
            · simp (disch := omega) only [f_X8_stormOf, f_X1_isLateStorm, f_X1_rainfallOf, pq_c4 hR, pq_bd, pq_ck, pq_bx, rc_lt, pq_i10, pq_i01, pq_x1 hX, pq_x2 hX, pq_x5 hX, pq_x6 hX, pq_x8 hX, pq_k0 hK, pq_k1 hK, pq_k3 hK, pq_k4 hK, pq_kp hK, pq_ks hK, h1, h2, h3', pq_fm12, pq_in, pq_cl, pq_kr hK, pq_q1 hR, not_false_eq_true, not_true_eq_false, and_self, and_true, true_and, and_false, false_and, or_true, true_or, or_false, false_or, if_true, if_false, ↓reduceIte, Decidable.not_not, ne_eq, Int32.reduceLE, Int32.reduceLT, pq_nes, eq_self]
            · simp (disch := omega) only [f_X9_stormOf, q9_in, pq_m1 hM, hg, pq_bd, pq_ck, pq_bx, rc_lt, pq_i10, pq_i01, pq_upE, pq_udE, pq_uu, pq_gu hg, h1, h2, h3, pq_md12, pq_rx1, pq_in, pq_cl, not_false_eq_true, not_true_eq_false, and_self, and_true, true_and, and_false, false_and, or_true, true_or, or_false, false_or, if_true, if_false, ↓reduceIte, Decidable.not_not, ne_eq, Int32.reduceLE, Int32.reduceLT, pq_nes, eq_self]
          · refine pq_QmE (g (73 + 3 * (s % 12))) (by simp) ?_ ?_
            · simp (disch := omega) only [f_X8_stormOf, f_X1_isLateStorm, f_X1_rainfallOf, pq_c4 hR, pq_bd, pq_ck, pq_bx, rc_lt, pq_i10, pq_i01, pq_x1 hX, pq_x2 hX, pq_x5 hX, pq_x6 hX, pq_x8 hX, pq_k0 hK, pq_k1 hK, pq_k3 hK, pq_k4 hK, pq_kp hK, pq_ks hK, h1, h2, h3', pq_fm12, pq_in, pq_cl, pq_kr hK, pq_q2 hR, not_false_eq_true, not_true_eq_false, and_self, and_true, true_and, and_false, false_and, or_true, true_or, or_false, false_or, if_true, if_false, ↓reduceIte, Decidable.not_not, ne_eq, Int32.reduceLE, Int32.reduceLT, pq_nes, eq_self]
            · simp (disch := omega) only [f_X9_stormOf, q9_in, pq_m1 hM, hg, pq_bd, pq_ck, pq_bx, rc_lt, pq_i10, pq_i01, pq_upE, pq_udE, pq_uu, pq_gu hg, h1, h2, h3, pq_md12, pq_rx2, pq_in, pq_cl, not_false_eq_true, not_true_eq_false, and_self, and_true, true_and, and_false, false_and, or_true, true_or, or_false, false_or, if_true, if_false, ↓reduceIte, Decidable.not_not, ne_eq, Int32.reduceLE, Int32.reduceLT, pq_nes, eq_self]
        · have h5 := pq_3n h4
          refine pq_Qm 3 2 (0 : Int32) 0 (by simp) (by simp) ?_ ?_
          · simp (disch := omega) only [f_X8_stormOf, f_X1_isLateStorm, f_X1_rainfallOf, pq_c4 hR, pq_bd, pq_ck, pq_bx, rc_lt, pq_i10, pq_i01, pq_x1 hX, pq_x2 hX, pq_x5 hX, pq_x6 hX, pq_x8 hX, pq_k0 hK, pq_k1 hK, pq_k3 hK, pq_k4 hK, pq_kp hK, pq_ks hK, h1, h2, h3', pq_fm12, pq_in, pq_cl, pq_kr hK, h5, not_false_eq_true, not_true_eq_false, and_self, and_true, true_and, and_false, false_and, or_true, true_or, or_false, false_or, if_true, if_false, ↓reduceIte, Decidable.not_not, ne_eq, Int32.reduceLE, Int32.reduceLT, pq_nes, eq_self]
          · simp (disch := omega) only [f_X9_stormOf, q9_in, pq_m1 hM, hg, pq_bd, pq_ck, pq_bx, rc_lt, pq_i10, pq_i01, pq_upE, pq_udE, pq_uu, pq_gu hg, h1, h2, h3, if_neg h4, not_false_eq_true, not_true_eq_false, and_self, and_true, true_and, and_false, false_and, or_true, true_or, or_false, false_or, if_true, if_false, ↓reduceIte, Decidable.not_not, ne_eq, Int32.reduceLE, Int32.reduceLT, pq_nes, eq_self]
      · refine pq_Qm 4 1 (0 : Int32) 0 (by simp) (by simp) ?_ ?_
        · simp (disch := omega) only [f_X8_stormOf, f_X1_isLateStorm, f_X1_rainfallOf, pq_c4 hR, pq_bd, pq_ck, pq_bx, rc_lt, pq_i10, pq_i01, pq_x1 hX, pq_x2 hX, pq_x5 hX, pq_x6 hX, pq_x8 hX, pq_k0 hK, pq_k1 hK, pq_k3 hK, pq_k4 hK, pq_kp hK, pq_ks hK, h1, h2, Int32.not_le.mp h3, not_false_eq_true, not_true_eq_false, and_self, and_true, true_and, and_false, false_and, or_true, true_or, or_false, false_or, if_true, if_false, ↓reduceIte, Decidable.not_not, ne_eq, Int32.reduceLE, Int32.reduceLT, pq_nes, eq_self]
        · simp (disch := omega) only [f_X9_stormOf, q9_in, pq_m1 hM, hg, pq_bd, pq_ck, pq_bx, rc_lt, pq_i10, pq_i01, pq_upE, pq_udE, pq_uu, pq_gu hg, h1, h2, h3, not_false_eq_true, not_true_eq_false, and_self, and_true, true_and, and_false, false_and, or_true, true_or, or_false, false_or, if_true, if_false, ↓reduceIte, Decidable.not_not, ne_eq, Int32.reduceLE, Int32.reduceLT, pq_nes, eq_self]
theorem q_reason (hX : pq_X rf x) (hR : pq_R σ (x + 2) g n p) (hV : pq_V g n p N) (hg : σ (x + 308 + 1) = g) {u1 : Int32} (hw0 : σ (x + 29) 0 = σ (x + 308) 13) (hw1 : σ (x + 29) 1 = σ (x + 308) 14) (hw2 : σ (x + 29) 2 = σ (x + 308) 15) : pq_Q (f_X8_reason rf x u1 σ) (f_X9_reason rf (x + 308) u1 σ) σ (x + 308) (fun k cd => (k = 0 ∧ cd = 0) ∨ (k = 3 ∧ cd = 1) ∨ (k = 4 ∧ cd = 2)) := by
  have hK := pq_xk hX
  have hM := pq_xm hX
  have h8 := pq_vn hV
  have h4 := pq_vp hV
  by_cases h1 : ¬ u1 < 0 ∧ ¬ 2 < u1
  · by_cases h2 : σ (x + 308) 13 = 0
    · refine pq_Qm 4 2 (0 : Int32) 0 (by simp) (by simp) ?_ ?_
      · simp (disch := omega) only [f_X8_reason, q8_out, hw0, hw1, hw2, pq_bd, pq_ck, pq_bx, rc_lt, pq_i10, pq_i01, pq_x1 hX, pq_x2 hX, pq_x5 hX, pq_x6 hX, pq_x8 hX, pq_k0 hK, pq_k1 hK, pq_k3 hK, pq_k4 hK, pq_kp hK, pq_ks hK, h1, h2, not_false_eq_true, not_true_eq_false, and_self, and_true, true_and, and_false, false_and, or_true, true_or, or_false, false_or, if_true, if_false, ↓reduceIte, Decidable.not_not, ne_eq, Int32.reduceLE, Int32.reduceLT, pq_nes, eq_self]
      · simp (disch := omega) only [f_X9_reason, q9_in, pq_udN, pq_bd, pq_ck, pq_bx, rc_lt, pq_i10, pq_i01, pq_upE, pq_udE, pq_uu, pq_gu hg, h1, h2, not_false_eq_true, not_true_eq_false, and_self, and_true, true_and, and_false, false_and, or_true, true_or, or_false, false_or, if_true, if_false, ↓reduceIte, Decidable.not_not, ne_eq, Int32.reduceLE, Int32.reduceLT, pq_nes, eq_self]
    · rcases pq_3 h1 with rfl | rfl | rfl
      · refine pq_QmE (σ (x + 308) 13) (by simp) ?_ ?_
        · simp (disch := omega) only [f_X8_reason, q8_out, hw0, hw1, hw2, pq_bd, pq_ck, pq_bx, rc_lt, pq_i10, pq_i01, pq_x1 hX, pq_x2 hX, pq_x5 hX, pq_x6 hX, pq_x8 hX, pq_k0 hK, pq_k1 hK, pq_k3 hK, pq_k4 hK, pq_kp hK, pq_ks hK, h1, h2, not_false_eq_true, not_true_eq_false, and_self, and_true, true_and, and_false, false_and, or_true, true_or, or_false, false_or, if_true, if_false, ↓reduceIte, Decidable.not_not, ne_eq, Int32.reduceLE, Int32.reduceLT, pq_nes, eq_self]
        · simp (disch := omega) only [f_X9_reason, q9_in, pq_udN, pq_bd, pq_ck, pq_bx, rc_lt, pq_i10, pq_i01, pq_upE, pq_udE, pq_uu, pq_gu hg, h1, h2, not_false_eq_true, not_true_eq_false, and_self, and_true, true_and, and_false, false_and, or_true, true_or, or_false, false_or, if_true, if_false, ↓reduceIte, Decidable.not_not, ne_eq, Int32.reduceLE, Int32.reduceLT, pq_nes, eq_self]
      · refine pq_QmE (σ (x + 308) 14) (by simp) ?_ ?_
        · simp (disch := omega) only [f_X8_reason, q8_out, hw0, hw1, hw2, pq_bd, pq_ck, pq_bx, rc_lt, pq_i10, pq_i01, pq_x1 hX, pq_x2 hX, pq_x5 hX, pq_x6 hX, pq_x8 hX, pq_k0 hK, pq_k1 hK, pq_k3 hK, pq_k4 hK, pq_kp hK, pq_ks hK, h1, h2, not_false_eq_true, not_true_eq_false, and_self, and_true, true_and, and_false, false_and, or_true, true_or, or_false, false_or, if_true, if_false, ↓reduceIte, Decidable.not_not, ne_eq, Int32.reduceLE, Int32.reduceLT, pq_nes, eq_self]
        · simp (disch := omega) only [f_X9_reason, q9_in, pq_udN, pq_bd, pq_ck, pq_bx, rc_lt, pq_i10, pq_i01, pq_upE, pq_udE, pq_uu, pq_gu hg, h1, h2, not_false_eq_true, not_true_eq_false, and_self, and_true, true_and, and_false, false_and, or_true, true_or, or_false, false_or, if_true, if_false, ↓reduceIte, Decidable.not_not, ne_eq, Int32.reduceLE, Int32.reduceLT, pq_nes, eq_self]
      · refine pq_QmE (σ (x + 308) 15) (by simp) ?_ ?_
        · simp (disch := omega) only [f_X8_reason, q8_out, hw0, hw1, hw2, pq_bd, pq_ck, pq_bx, rc_lt, pq_i10, pq_i01, pq_x1 hX, pq_x2 hX, pq_x5 hX, pq_x6 hX, pq_x8 hX, pq_k0 hK, pq_k1 hK, pq_k3 hK, pq_k4 hK, pq_kp hK, pq_ks hK, h1, h2, not_false_eq_true, not_true_eq_false, and_self, and_true, true_and, and_false, false_and, or_true, true_or, or_false, false_or, if_true, if_false, ↓reduceIte, Decidable.not_not, ne_eq, Int32.reduceLE, Int32.reduceLT, pq_nes, eq_self]
        · simp (disch := omega) only [f_X9_reason, q9_in, pq_udN, pq_bd, pq_ck, pq_bx, rc_lt, pq_i10, pq_i01, pq_upE, pq_udE, pq_uu, pq_gu hg, h1, h2, not_false_eq_true, not_true_eq_false, and_self, and_true, true_and, and_false, false_and, or_true, true_or, or_false, false_or, if_true, if_false, ↓reduceIte, Decidable.not_not, ne_eq, Int32.reduceLE, Int32.reduceLT, pq_nes, eq_self]
  · refine pq_Qm 3 1 (0 : Int32) 0 (by simp) (by simp) ?_ ?_
    · simp (disch := omega) only [f_X8_reason, q8_out, hw0, hw1, hw2, pq_bd, pq_ck, pq_bx, rc_lt, pq_i10, pq_i01, pq_x1 hX, pq_x2 hX, pq_x5 hX, pq_x6 hX, pq_x8 hX, pq_k0 hK, pq_k1 hK, pq_k3 hK, pq_k4 hK, pq_kp hK, pq_ks hK, if_neg h1, not_false_eq_true, not_true_eq_false, and_self, and_true, true_and, and_false, false_and, or_true, true_or, or_false, false_or, if_true, if_false, ↓reduceIte, Decidable.not_not, ne_eq, Int32.reduceLE, Int32.reduceLT, pq_nes, eq_self]
    · simp (disch := omega) only [f_X9_reason, q9_in, pq_udN, pq_bd, pq_ck, pq_bx, rc_lt, pq_i10, pq_i01, pq_upE, pq_udE, pq_uu, pq_gu hg, if_neg h1, not_false_eq_true, not_true_eq_false, and_self, and_true, true_and, and_false, false_and, or_true, true_or, or_false, false_or, if_true, if_false, ↓reduceIte, Decidable.not_not, ne_eq, Int32.reduceLE, Int32.reduceLT, pq_nes, eq_self]
theorem q_account (hX : pq_X rf x) (hR : pq_R σ (x + 2) g n p) (hV : pq_V g n p N) (hg : σ (x + 308 + 1) = g) {u1 : Int32} (hk : σ (x + 57) 2 = σ (x + 308) 5) (hlx : σ (x + 302) 1 = σ (x + 308) 10) : pq_Q (f_X8_account rf x u1 σ) (f_X9_account rf (x + 308) u1 σ) σ (x + 308) (fun k cd => (k = 0 ∧ cd = 0) ∨ (k = 3 ∧ cd = 1)) := by
  have hK := pq_xk hX
  have hM := pq_xm hX
  have h8 := pq_vn hV
  have h4 := pq_vp hV
  have hl7 : ¬ (7 : Int32) = 0 ∧ ¬ (7 : Int32) = 1 ∧ ¬ (7 : Int32) = 2 ∧ ¬ (7 : Int32) = 3 ∧ ¬ (7 : Int32) = 4 ∧ ¬ (7 : Int32) = 5 ∧ ¬ (7 : Int32) = 6 := by decide
  have hl8 : ¬ (8 : Int32) = 0 ∧ ¬ (8 : Int32) = 1 ∧ ¬ (8 : Int32) = 2 ∧ ¬ (8 : Int32) = 3 ∧ ¬ (8 : Int32) = 4 ∧ ¬ (8 : Int32) = 5 ∧ ¬ (8 : Int32) = 6 ∧ ¬ (8 : Int32) = 7 := by decide
  have hl9 : ¬ (9 : Int32) = 0 ∧ ¬ (9 : Int32) = 1 ∧ ¬ (9 : Int32) = 2 ∧ ¬ (9 : Int32) = 3 ∧ ¬ (9 : Int32) = 4 ∧ ¬ (9 : Int32) = 5 ∧ ¬ (9 : Int32) = 6 ∧ ¬ (9 : Int32) = 7 ∧ ¬ (9 : Int32) = 8 := by decide
  have hl10 : ¬ (10 : Int32) = 0 ∧ ¬ (10 : Int32) = 1 ∧ ¬ (10 : Int32) = 2 ∧ ¬ (10 : Int32) = 3 ∧ ¬ (10 : Int32) = 4 ∧ ¬ (10 : Int32) = 5 ∧ ¬ (10 : Int32) = 6 ∧ ¬ (10 : Int32) = 7 ∧ ¬ (10 : Int32) = 8 ∧ ¬ (10 : Int32) = 9 := by decide
  have hl11 : ¬ (11 : Int32) = 0 ∧ ¬ (11 : Int32) = 1 ∧ ¬ (11 : Int32) = 2 ∧ ¬ (11 : Int32) = 3 ∧ ¬ (11 : Int32) = 4 ∧ ¬ (11 : Int32) = 5 ∧ ¬ (11 : Int32) = 6 ∧ ¬ (11 : Int32) = 7 ∧ ¬ (11 : Int32) = 8 ∧ ¬ (11 : Int32) = 9 ∧ ¬ (11 : Int32) = 10 := by decide
  by_cases e0 : u1 = 0
  · subst e0
    refine pq_QmE (g 0) (by simp) ?_ ?_
    · simp (disch := omega) only [f_X8_account, pq_bd, pq_ck, pq_bx, rc_lt, pq_i10, pq_i01, pq_x1 hX, pq_x2 hX, pq_x5 hX, pq_x6 hX, pq_x8 hX, pq_k0 hK, pq_k1 hK, pq_k3 hK, pq_k4 hK, pq_kp hK, pq_ks hK, pq_c0 hR, pq_c1 hR, pq_c2 hR, pq_c3 hR, pq_c4 hR, pq_c5 hR, pq_c6 hR, pq_c7 hR, pq_c8 hR, pq_c9 hR, pq_c10 hR, hl7, hl8, hl9, hl10, hl11, not_false_eq_true, not_true_eq_false, and_self, and_true, true_and, and_false, false_and, or_true, true_or, or_false, false_or, if_true, if_false, ↓reduceIte, Decidable.not_not, ne_eq, Int32.reduceLE, Int32.reduceLT, pq_nes, eq_self]
    · simp (disch := omega) only [f_X9_account, f_X9_fails, pq_m1 hM, pq_udN, pq_bd, pq_ck, pq_bx, rc_lt, pq_i10, pq_i01, pq_upE, pq_udE, pq_uu, pq_gu hg, hl7, hl8, hl9, hl10, hl11, not_false_eq_true, not_true_eq_false, and_self, and_true, true_and, and_false, false_and, or_true, true_or, or_false, false_or, if_true, if_false, ↓reduceIte, Decidable.not_not, ne_eq, Int32.reduceLE, Int32.reduceLT, pq_nes, eq_self]
  by_cases e1 : u1 = 1
  · subst e1
    refine pq_QmE (pq_fd (fun b a => a + g (16 + 6 * b)) 0 n 0) (by simp) ?_ ?_
    · simp (disch := omega) only [f_X8_account, pq_bd, pq_ck, pq_bx, rc_lt, pq_i10, pq_i01, pq_x1 hX, pq_x2 hX, pq_x5 hX, pq_x6 hX, pq_x8 hX, pq_k0 hK, pq_k1 hK, pq_k3 hK, pq_k4 hK, pq_kp hK, pq_ks hK, pq_c0 hR, pq_c1 hR, pq_c2 hR, pq_c3 hR, pq_c4 hR, pq_c5 hR, pq_c6 hR, pq_c7 hR, pq_c8 hR, pq_c9 hR, pq_c10 hR, hl7, hl8, hl9, hl10, hl11, q_1_litresInBarrels hK hR hV, not_false_eq_true, not_true_eq_false, and_self, and_true, true_and, and_false, false_and, or_true, true_or, or_false, false_or, if_true, if_false, ↓reduceIte, Decidable.not_not, ne_eq, Int32.reduceLE, Int32.reduceLT, pq_nes, eq_self]
    · simp (disch := omega) only [f_X9_account, f_X9_fails, pq_m1 hM, pq_udN, pq_bd, pq_ck, pq_bx, rc_lt, pq_i10, pq_i01, pq_upE, pq_udE, pq_uu, pq_gu hg, hl7, hl8, hl9, hl10, hl11, q_9_allLitres hM (pq_gu hg) hV, not_false_eq_true, not_true_eq_false, and_self, and_true, true_and, and_false, false_and, or_true, true_or, or_false, false_or, if_true, if_false, ↓reduceIte, Decidable.not_not, ne_eq, Int32.reduceLE, Int32.reduceLT, pq_nes, eq_self]
  by_cases e2 : u1 = 2
  · subst e2
    refine pq_QmE (g 2) (by simp) ?_ ?_
    · simp (disch := omega) only [f_X8_account, pq_bd, pq_ck, pq_bx, rc_lt, pq_i10, pq_i01, pq_x1 hX, pq_x2 hX, pq_x5 hX, pq_x6 hX, pq_x8 hX, pq_k0 hK, pq_k1 hK, pq_k3 hK, pq_k4 hK, pq_kp hK, pq_ks hK, pq_c0 hR, pq_c1 hR, pq_c2 hR, pq_c3 hR, pq_c4 hR, pq_c5 hR, pq_c6 hR, pq_c7 hR, pq_c8 hR, pq_c9 hR, pq_c10 hR, hl7, hl8, hl9, hl10, hl11, not_false_eq_true, not_true_eq_false, and_self, and_true, true_and, and_false, false_and, or_true, true_or, or_false, false_or, if_true, if_false, ↓reduceIte, Decidable.not_not, ne_eq, Int32.reduceLE, Int32.reduceLT, pq_nes, eq_self]
    · simp (disch := omega) only [f_X9_account, f_X9_fails, pq_m1 hM, pq_udN, pq_bd, pq_ck, pq_bx, rc_lt, pq_i10, pq_i01, pq_upE, pq_udE, pq_uu, pq_gu hg, hl7, hl8, hl9, hl10, hl11, not_false_eq_true, not_true_eq_false, and_self, and_true, true_and, and_false, false_and, or_true, true_or, or_false, false_or, if_true, if_false, ↓reduceIte, Decidable.not_not, ne_eq, Int32.reduceLE, Int32.reduceLT, pq_nes, eq_self]
  by_cases e3 : u1 = 3
  · subst e3
    refine pq_QmE (g 1) (by simp) ?_ ?_
    · simp (disch := omega) only [f_X8_account, pq_bd, pq_ck, pq_bx, rc_lt, pq_i10, pq_i01, pq_x1 hX, pq_x2 hX, pq_x5 hX, pq_x6 hX, pq_x8 hX, pq_k0 hK, pq_k1 hK, pq_k3 hK, pq_k4 hK, pq_kp hK, pq_ks hK, pq_c0 hR, pq_c1 hR, pq_c2 hR, pq_c3 hR, pq_c4 hR, pq_c5 hR, pq_c6 hR, pq_c7 hR, pq_c8 hR, pq_c9 hR, pq_c10 hR, hl7, hl8, hl9, hl10, hl11, not_false_eq_true, not_true_eq_false, and_self, and_true, true_and, and_false, false_and, or_true, true_or, or_false, false_or, if_true, if_false, ↓reduceIte, Decidable.not_not, ne_eq, Int32.reduceLE, Int32.reduceLT, pq_nes, eq_self]
    · simp (disch := omega) only [f_X9_account, f_X9_fails, pq_m1 hM, pq_udN, pq_bd, pq_ck, pq_bx, rc_lt, pq_i10, pq_i01, pq_upE, pq_udE, pq_uu, pq_gu hg, hl7, hl8, hl9, hl10, hl11, not_false_eq_true, not_true_eq_false, and_self, and_true, true_and, and_false, false_and, or_true, true_or, or_false, false_or, if_true, if_false, ↓reduceIte, Decidable.not_not, ne_eq, Int32.reduceLE, Int32.reduceLT, pq_nes, eq_self]
  by_cases e4 : u1 = 4
  · subst e4
    refine pq_QmE (g 3) (by simp) ?_ ?_
    · simp (disch := omega) only [f_X8_account, pq_bd, pq_ck, pq_bx, rc_lt, pq_i10, pq_i01, pq_x1 hX, pq_x2 hX, pq_x5 hX, pq_x6 hX, pq_x8 hX, pq_k0 hK, pq_k1 hK, pq_k3 hK, pq_k4 hK, pq_kp hK, pq_ks hK, pq_c0 hR, pq_c1 hR, pq_c2 hR, pq_c3 hR, pq_c4 hR, pq_c5 hR, pq_c6 hR, pq_c7 hR, pq_c8 hR, pq_c9 hR, pq_c10 hR, hl7, hl8, hl9, hl10, hl11, not_false_eq_true, not_true_eq_false, and_self, and_true, true_and, and_false, false_and, or_true, true_or, or_false, false_or, if_true, if_false, ↓reduceIte, Decidable.not_not, ne_eq, Int32.reduceLE, Int32.reduceLT, pq_nes, eq_self]
    · simp (disch := omega) only [f_X9_account, f_X9_fails, pq_m1 hM, pq_udN, pq_bd, pq_ck, pq_bx, rc_lt, pq_i10, pq_i01, pq_upE, pq_udE, pq_uu, pq_gu hg, hl7, hl8, hl9, hl10, hl11, not_false_eq_true, not_true_eq_false, and_self, and_true, true_and, and_false, false_and, or_true, true_or, or_false, false_or, if_true, if_false, ↓reduceIte, Decidable.not_not, ne_eq, Int32.reduceLE, Int32.reduceLT, pq_nes, eq_self]
  by_cases e5 : u1 = 5
  · subst e5
    refine pq_QmE (g 4) (by simp) ?_ ?_
    · simp (disch := omega) only [f_X8_account, pq_bd, pq_ck, pq_bx, rc_lt, pq_i10, pq_i01, pq_x1 hX, pq_x2 hX, pq_x5 hX, pq_x6 hX, pq_x8 hX, pq_k0 hK, pq_k1 hK, pq_k3 hK, pq_k4 hK, pq_kp hK, pq_ks hK, pq_c0 hR, pq_c1 hR, pq_c2 hR, pq_c3 hR, pq_c4 hR, pq_c5 hR, pq_c6 hR, pq_c7 hR, pq_c8 hR, pq_c9 hR, pq_c10 hR, hl7, hl8, hl9, hl10, hl11, not_false_eq_true, not_true_eq_false, and_self, and_true, true_and, and_false, false_and, or_true, true_or, or_false, false_or, if_true, if_false, ↓reduceIte, Decidable.not_not, ne_eq, Int32.reduceLE, Int32.reduceLT, pq_nes, eq_self]
    · simp (disch := omega) only [f_X9_account, f_X9_fails, pq_m1 hM, pq_udN, pq_bd, pq_ck, pq_bx, rc_lt, pq_i10, pq_i01, pq_upE, pq_udE, pq_uu, pq_gu hg, hl7, hl8, hl9, hl10, hl11, not_false_eq_true, not_true_eq_false, and_self, and_true, true_and, and_false, false_and, or_true, true_or, or_false, false_or, if_true, if_false, ↓reduceIte, Decidable.not_not, ne_eq, Int32.reduceLE, Int32.reduceLT, pq_nes, eq_self]
  by_cases e6 : u1 = 6
  · subst e6
    refine pq_QmE (g 7) (by simp) ?_ ?_
    · simp (disch := omega) only [f_X8_account, pq_bd, pq_ck, pq_bx, rc_lt, pq_i10, pq_i01, pq_x1 hX, pq_x2 hX, pq_x5 hX, pq_x6 hX, pq_x8 hX, pq_k0 hK, pq_k1 hK, pq_k3 hK, pq_k4 hK, pq_kp hK, pq_ks hK, pq_c0 hR, pq_c1 hR, pq_c2 hR, pq_c3 hR, pq_c4 hR, pq_c5 hR, pq_c6 hR, pq_c7 hR, pq_c8 hR, pq_c9 hR, pq_c10 hR, hl7, hl8, hl9, hl10, hl11, not_false_eq_true, not_true_eq_false, and_self, and_true, true_and, and_false, false_and, or_true, true_or, or_false, false_or, if_true, if_false, ↓reduceIte, Decidable.not_not, ne_eq, Int32.reduceLE, Int32.reduceLT, pq_nes, eq_self]
    · simp (disch := omega) only [f_X9_account, f_X9_fails, pq_m1 hM, pq_udN, pq_bd, pq_ck, pq_bx, rc_lt, pq_i10, pq_i01, pq_upE, pq_udE, pq_uu, pq_gu hg, hl7, hl8, hl9, hl10, hl11, not_false_eq_true, not_true_eq_false, and_self, and_true, true_and, and_false, false_and, or_true, true_or, or_false, false_or, if_true, if_false, ↓reduceIte, Decidable.not_not, ne_eq, Int32.reduceLE, Int32.reduceLT, pq_nes, eq_self]
  by_cases e7 : u1 = 7
  · subst e7
    refine pq_QmE (g 8) (by simp) ?_ ?_
    · simp (disch := omega) only [f_X8_account, pq_bd, pq_ck, pq_bx, rc_lt, pq_i10, pq_i01, pq_x1 hX, pq_x2 hX, pq_x5 hX, pq_x6 hX, pq_x8 hX, pq_k0 hK, pq_k1 hK, pq_k3 hK, pq_k4 hK, pq_kp hK, pq_ks hK, pq_c0 hR, pq_c1 hR, pq_c2 hR, pq_c3 hR, pq_c4 hR, pq_c5 hR, pq_c6 hR, pq_c7 hR, pq_c8 hR, pq_c9 hR, pq_c10 hR, hl7, hl8, hl9, hl10, hl11, not_false_eq_true, not_true_eq_false, and_self, and_true, true_and, and_false, false_and, or_true, true_or, or_false, false_or, if_true, if_false, ↓reduceIte, Decidable.not_not, ne_eq, Int32.reduceLE, Int32.reduceLT, pq_nes, eq_self]
    · simp (disch := omega) only [f_X9_account, f_X9_fails, pq_m1 hM, pq_udN, pq_bd, pq_ck, pq_bx, rc_lt, pq_i10, pq_i01, pq_upE, pq_udE, pq_uu, pq_gu hg, hl7, hl8, hl9, hl10, hl11, not_false_eq_true, not_true_eq_false, and_self, and_true, true_and, and_false, false_and, or_true, true_or, or_false, false_or, if_true, if_false, ↓reduceIte, Decidable.not_not, ne_eq, Int32.reduceLE, Int32.reduceLT, pq_nes, eq_self]
  by_cases e8 : u1 = 8
  · subst e8
    refine pq_QmE (g 9) (by simp) ?_ ?_
    · simp (disch := omega) only [f_X8_account, pq_bd, pq_ck, pq_bx, rc_lt, pq_i10, pq_i01, pq_x1 hX, pq_x2 hX, pq_x5 hX, pq_x6 hX, pq_x8 hX, pq_k0 hK, pq_k1 hK, pq_k3 hK, pq_k4 hK, pq_kp hK, pq_ks hK, pq_c0 hR, pq_c1 hR, pq_c2 hR, pq_c3 hR, pq_c4 hR, pq_c5 hR, pq_c6 hR, pq_c7 hR, pq_c8 hR, pq_c9 hR, pq_c10 hR, hl7, hl8, hl9, hl10, hl11, not_false_eq_true, not_true_eq_false, and_self, and_true, true_and, and_false, false_and, or_true, true_or, or_false, false_or, if_true, if_false, ↓reduceIte, Decidable.not_not, ne_eq, Int32.reduceLE, Int32.reduceLT, pq_nes, eq_self]
    · simp (disch := omega) only [f_X9_account, f_X9_fails, pq_m1 hM, pq_udN, pq_bd, pq_ck, pq_bx, rc_lt, pq_i10, pq_i01, pq_upE, pq_udE, pq_uu, pq_gu hg, hl7, hl8, hl9, hl10, hl11, not_false_eq_true, not_true_eq_false, and_self, and_true, true_and, and_false, false_and, or_true, true_or, or_false, false_or, if_true, if_false, ↓reduceIte, Decidable.not_not, ne_eq, Int32.reduceLE, Int32.reduceLT, pq_nes, eq_self]
  by_cases e9 : u1 = 9
  · subst e9
    refine pq_QmE (g 10) (by simp) ?_ ?_
    · simp (disch := omega) only [f_X8_account, pq_bd, pq_ck, pq_bx, rc_lt, pq_i10, pq_i01, pq_x1 hX, pq_x2 hX, pq_x5 hX, pq_x6 hX, pq_x8 hX, pq_k0 hK, pq_k1 hK, pq_k3 hK, pq_k4 hK, pq_kp hK, pq_ks hK, pq_c0 hR, pq_c1 hR, pq_c2 hR, pq_c3 hR, pq_c4 hR, pq_c5 hR, pq_c6 hR, pq_c7 hR, pq_c8 hR, pq_c9 hR, pq_c10 hR, hl7, hl8, hl9, hl10, hl11, not_false_eq_true, not_true_eq_false, and_self, and_true, true_and, and_false, false_and, or_true, true_or, or_false, false_or, if_true, if_false, ↓reduceIte, Decidable.not_not, ne_eq, Int32.reduceLE, Int32.reduceLT, pq_nes, eq_self]
    · simp (disch := omega) only [f_X9_account, f_X9_fails, pq_m1 hM, pq_udN, pq_bd, pq_ck, pq_bx, rc_lt, pq_i10, pq_i01, pq_upE, pq_udE, pq_uu, pq_gu hg, hl7, hl8, hl9, hl10, hl11, not_false_eq_true, not_true_eq_false, and_self, and_true, true_and, and_false, false_and, or_true, true_or, or_false, false_or, if_true, if_false, ↓reduceIte, Decidable.not_not, ne_eq, Int32.reduceLE, Int32.reduceLT, pq_nes, eq_self]
  by_cases e10 : u1 = 10
  · subst e10
    refine pq_QmE (σ (x + 308) 5) (by simp) ?_ ?_
    · simp (disch := omega) only [f_X8_account, pq_bd, pq_ck, pq_bx, rc_lt, pq_i10, pq_i01, pq_x1 hX, pq_x2 hX, pq_x5 hX, pq_x6 hX, pq_x8 hX, pq_k0 hK, pq_k1 hK, pq_k3 hK, pq_k4 hK, pq_kp hK, pq_ks hK, pq_c0 hR, pq_c1 hR, pq_c2 hR, pq_c3 hR, pq_c4 hR, pq_c5 hR, pq_c6 hR, pq_c7 hR, pq_c8 hR, pq_c9 hR, pq_c10 hR, hl7, hl8, hl9, hl10, hl11, hk, not_false_eq_true, not_true_eq_false, and_self, and_true, true_and, and_false, false_and, or_true, true_or, or_false, false_or, if_true, if_false, ↓reduceIte, Decidable.not_not, ne_eq, Int32.reduceLE, Int32.reduceLT, pq_nes, eq_self]
    · simp (disch := omega) only [f_X9_account, f_X9_fails, pq_m1 hM, pq_udN, pq_bd, pq_ck, pq_bx, rc_lt, pq_i10, pq_i01, pq_upE, pq_udE, pq_uu, pq_gu hg, hl7, hl8, hl9, hl10, hl11, not_false_eq_true, not_true_eq_false, and_self, and_true, true_and, and_false, false_and, or_true, true_or, or_false, false_or, if_true, if_false, ↓reduceIte, Decidable.not_not, ne_eq, Int32.reduceLE, Int32.reduceLT, pq_nes, eq_self]
  by_cases e11 : u1 = 11
  · subst e11
    refine pq_QmE (σ (x + 308) 10) (by simp) ?_ ?_
    · simp (disch := omega) only [f_X8_account, pq_bd, pq_ck, pq_bx, rc_lt, pq_i10, pq_i01, pq_x1 hX, pq_x2 hX, pq_x5 hX, pq_x6 hX, pq_x8 hX, pq_k0 hK, pq_k1 hK, pq_k3 hK, pq_k4 hK, pq_kp hK, pq_ks hK, pq_c0 hR, pq_c1 hR, pq_c2 hR, pq_c3 hR, pq_c4 hR, pq_c5 hR, pq_c6 hR, pq_c7 hR, pq_c8 hR, pq_c9 hR, pq_c10 hR, hl7, hl8, hl9, hl10, hl11, hlx, not_false_eq_true, not_true_eq_false, and_self, and_true, true_and, and_false, false_and, or_true, true_or, or_false, false_or, if_true, if_false, ↓reduceIte, Decidable.not_not, ne_eq, Int32.reduceLE, Int32.reduceLT, pq_nes, eq_self]
    · simp (disch := omega) only [f_X9_account, f_X9_fails, pq_m1 hM, pq_udN, pq_bd, pq_ck, pq_bx, rc_lt, pq_i10, pq_i01, pq_upE, pq_udE, pq_uu, pq_gu hg, hl7, hl8, hl9, hl10, hl11, not_false_eq_true, not_true_eq_false, and_self, and_true, true_and, and_false, false_and, or_true, true_or, or_false, false_or, if_true, if_false, ↓reduceIte, Decidable.not_not, ne_eq, Int32.reduceLE, Int32.reduceLT, pq_nes, eq_self]
  refine pq_Qm 3 1 (0 : Int32) 0 (by simp) (by simp) ?_ ?_
  · simp (disch := omega) only [f_X8_account, pq_bd, pq_ck, pq_bx, rc_lt, pq_i10, pq_i01, pq_x1 hX, pq_x2 hX, pq_x5 hX, pq_x6 hX, pq_x8 hX, pq_k0 hK, pq_k1 hK, pq_k3 hK, pq_k4 hK, pq_kp hK, pq_ks hK, pq_c0 hR, pq_c1 hR, pq_c2 hR, pq_c3 hR, pq_c4 hR, pq_c5 hR, pq_c6 hR, pq_c7 hR, pq_c8 hR, pq_c9 hR, pq_c10 hR, e0, e1, e2, e3, e4, e5, e6, e7, e8, e9, e10, e11, not_false_eq_true, not_true_eq_false, and_self, and_true, true_and, and_false, false_and, or_true, true_or, or_false, false_or, if_true, if_false, ↓reduceIte, Decidable.not_not, ne_eq, Int32.reduceLE, Int32.reduceLT, pq_nes, eq_self]
  · simp (disch := omega) only [f_X9_account, f_X9_fails, pq_m1 hM, pq_udN, pq_bd, pq_ck, pq_bx, rc_lt, pq_i10, pq_i01, pq_upE, pq_udE, pq_uu, pq_gu hg, e0, e1, e2, e3, e4, e5, e6, e7, e8, e9, e10, e11, not_false_eq_true, not_true_eq_false, and_self, and_true, true_and, and_false, false_and, or_true, true_or, or_false, false_or, if_true, if_false, ↓reduceIte, Decidable.not_not, ne_eq, Int32.reduceLE, Int32.reduceLT, pq_nes, eq_self]
theorem q_isEven (hX : pq_X rf x) (hR : pq_R σ (x + 2) g n p) (hV : pq_V g n p N) (hg : σ (x + 308 + 1) = g) : pq_Q2 (f_X8_isEven rf x σ) (f_X9_isEven rf (x + 308) σ) σ (x + 308) := by
  have hK := pq_xk hX
  have hM := pq_xm hX
  have h8 := pq_vn hV
  have h4 := pq_vp hV
  refine ⟨if g 5 + g 6 = pq_fd (fun b a => a + g (16 + 6 * b)) 0 n 0 + g 8 + g 9 then 1 else 0, ?_, ?_⟩
  · simp (disch := omega) only [f_X8_isEven, pq_bd, pq_ck, pq_bx, rc_lt, pq_i10, pq_i01, pq_x1 hX, pq_x2 hX, pq_x5 hX, pq_x6 hX, pq_x8 hX, pq_k0 hK, pq_k1 hK, pq_k3 hK, pq_k4 hK, pq_kp hK, pq_ks hK, pq_c0 hR, pq_c1 hR, pq_c2 hR, pq_c3 hR, pq_c4 hR, pq_c5 hR, pq_c6 hR, pq_c7 hR, pq_c8 hR, pq_c9 hR, pq_c10 hR, q_1_litresInBarrels hK hR hV]
    by_cases h : g 5 + g 6 = pq_fd (fun b a => a + g (16 + 6 * b)) 0 n 0 + g 8 + g 9 <;> simp only [h, if_true, if_false]
  · simp (disch := omega) only [f_X9_isEven, pq_m1 hM, pq_bd, pq_ck, pq_bx, rc_lt, pq_i10, pq_i01, pq_upE, pq_udE, pq_uu, pq_gu hg, q_9_allLitres hM (pq_gu hg) hV]
    by_cases h : g 5 + g 6 = pq_fd (fun b a => a + g (16 + 6 * b)) 0 n 0 + g 8 + g 9 <;> simp only [h, if_true, if_false]
theorem q_faultPosition (hf : σ x 7 = σ (x + 308) 12) : pq_Q2 (f_X8_faultPosition rf x σ) (f_X9_faultPosition rf (x + 308) σ) σ (x + 308) := by
  refine ⟨σ (x + 308) 12, ?_, ?_⟩
  · rw [f_X8_faultPosition, hf]
  · simp (disch := omega) only [f_X9_faultPosition, rc_lt, pq_upE, pq_udN]
theorem q_8_ranked_19 (hX : pq_X rf x) (hR : pq_R σ (x + 2) g n p) (hV : pq_V g n p N) (me pl : Int32) (K : Int32 → rc_S → Option (Nat × Int32 × rc_S)) : ∀ (d fu i : Nat), i + d = n → f_X8_ranked_19 rf x me pl K (fu + d + 1) (Int32.ofNat i) σ = match (List.range' i d).find? (fun b => decide (pq_pl g n me b = pl)) with | some b => some (0, Int32.ofNat b, σ) | none => K (Int32.ofNat n) σ := by
  have hK := pq_xk hX
  have h8 := pq_vn hV
  intro d
  induction d with
  | zero =>
    intro fu i h
    have hi : i = n := by omega
    subst hi
    rw [f_X8_ranked_19]
    simp (disch := omega) only [pq_x1 hX, pq_c0 hR, pq_v0 hV, pq_le, Nat.le_refl, if_true, List.range'_zero, List.find?_nil]
  | succ d ih =>
    intro fu i h
    have hni : (n ≤ i) = False := by simp; omega
    rw [show fu + (d + 1) + 1 = (fu + d + 1) + 1 from rfl, f_X8_ranked_19]
    simp (disch := omega) only [pq_x1 hX, pq_c0 hR, pq_v0 hV, pq_le, hni, if_false, q_1_placeOf hK hR hV, pq_bd, rc_lt, pq_s, List.range'_succ, List.find?_cons]
    by_cases hc : pq_pl g n me i = pl
    · simp only [hc, if_true, decide_true]
    · simp only [hc, if_false, decide_false]
      exact ih fu (i + 1) (by omega)
theorem q_9_ranked_29 {m : Nat} (hM : pq_M rf m) (hg : σ (m + 1) = g) (hV : pq_V g n p N) (me pl : Int32) (K : Int32 → rc_S → Option (Int32 × rc_S)) : ∀ (d fu i : Nat), i + d = n → f_X9_ranked_29 rf m me pl K (fu + d + 1) (Int32.ofNat i) σ = match (List.range' i d).find? (fun b => decide (pq_pl g n me b = pl)) with | some b => some (Int32.ofNat b, σ) | none => K (Int32.ofNat n) σ := by
  have h8 := pq_vn hV
  intro d
  induction d with
  | zero =>
    intro fu i h
    have hi : i = n := by omega
    subst hi
    rw [f_X9_ranked_29]
    simp (disch := omega) only [pq_m1 hM, hg, pq_v0 hV, pq_le, Nat.le_refl, if_true, List.range'_zero, List.find?_nil]
  | succ d ih =>
    intro fu i h
    have hni : (n ≤ i) = False := by simp; omega
    have hl := fun (own v2 v3 : Int32) (K : Int32 → Int32 → rc_S → Option (Int32 × rc_S)) => q_9_ranked_53 hM hg hV v3 v2 me own K n (99999 - n) 0 0 (by omega)
    rw [← pq_fu n (by omega)] at hl
    rw [show fu + (d + 1) + 1 = (fu + d + 1) + 1 from rfl, f_X9_ranked_29]
    simp (disch := omega) only [pq_m1 hM, hg, pq_v0 hV, pq_le, hni, if_false, q9_meas hM hg, pq_bd, rc_lt, pq_s, List.range'_succ, List.find?_cons]
    have hl2 := hl (pq_ms g me i) pl (Int32.ofNat i)
    rw [show Int32.ofNat 0 = (0 : Int32) from rfl] at hl2
    rw [hl2]
    by_cases hc : pq_pl g n me i = pl
    · have hc2 := hc
      unfold pq_pl at hc2
      simp only [hc, hc2, if_true, decide_true]
    · have hc2 := hc
      unfold pq_pl at hc2
      simp only [hc, hc2, if_false, decide_false]
      exact ih fu (i + 1) (by omega)
theorem q_ranked (hX : pq_X rf x) (hR : pq_R σ (x + 2) g n p) (hV : pq_V g n p N) (hg : σ (x + 308 + 1) = g) {u1 u2 : Int32} : pq_Q (f_X8_ranked rf x u1 u2 σ) (f_X9_ranked rf (x + 308) u1 u2 σ) σ (x + 308) (fun k cd => (k = 0 ∧ cd = 0) ∨ (k = 3 ∧ cd = 1) ∨ (k = 4 ∧ cd = 2)) := by
  have hK := pq_xk hX
  have hM := pq_xm hX
  have h8 := pq_vn hV
  have h4 := pq_vp hV
  have hl8 := fun (K : Int32 → rc_S → Option (Nat × Int32 × rc_S)) => q_8_ranked_19 hX hR hV u1 u2 K n (99999 - n) 0 (by omega)
  have hl9 := fun (v : Int32) (K : Int32 → rc_S → Option (Int32 × rc_S)) => q_9_ranked_29 hM (pq_gu (k := 0) (v := v) hg) hV u1 u2 K n (99999 - n) 0 (by omega)
  rw [← pq_fu n (by omega), show Int32.ofNat 0 = (0 : Int32) from rfl] at hl8 hl9
  by_cases h1 : ¬ u1 < 0 ∧ ¬ 3 < u1
  · cases hf : (List.range' 0 n).find? (fun b => decide (pq_pl g n u1 b = u2)) with
    | some b =>
      refine pq_QmE (Int32.ofNat b) (by simp) ?_ ?_
      · simp (disch := omega) only [f_X8_ranked, q8_out, pq_bd, pq_ck, pq_bx, rc_lt, pq_i10, pq_i01, pq_x1 hX, pq_x2 hX, pq_x5 hX, pq_x6 hX, pq_x8 hX, pq_k0 hK, pq_k1 hK, pq_k3 hK, pq_k4 hK, pq_kp hK, pq_ks hK, h1, hl8, hf, not_false_eq_true, not_true_eq_false, and_self, and_true, true_and, and_false, false_and, or_true, true_or, or_false, false_or, if_true, if_false, ↓reduceIte, Decidable.not_not, ne_eq, Int32.reduceLE, Int32.reduceLT, pq_nes, eq_self]
      · simp (disch := omega) only [f_X9_ranked, f_X9_fails, q9_in, pq_m1 hM, hg, pq_bd, pq_ck, pq_bx, rc_lt, pq_i10, pq_i01, pq_upE, pq_udE, pq_uu, pq_gu hg, h1, hl9, hf, not_false_eq_true, not_true_eq_false, and_self, and_true, true_and, and_false, false_and, or_true, true_or, or_false, false_or, if_true, if_false, ↓reduceIte, Decidable.not_not, ne_eq, Int32.reduceLE, Int32.reduceLT, pq_nes, eq_self]
    | none =>
      refine pq_Qm 4 2 (0 : Int32) 0 (by simp) (by simp) ?_ ?_
      · simp (disch := omega) only [f_X8_ranked, q8_out, pq_bd, pq_ck, pq_bx, rc_lt, pq_i10, pq_i01, pq_x1 hX, pq_x2 hX, pq_x5 hX, pq_x6 hX, pq_x8 hX, pq_k0 hK, pq_k1 hK, pq_k3 hK, pq_k4 hK, pq_kp hK, pq_ks hK, h1, hl8, hf, not_false_eq_true, not_true_eq_false, and_self, and_true, true_and, and_false, false_and, or_true, true_or, or_false, false_or, if_true, if_false, ↓reduceIte, Decidable.not_not, ne_eq, Int32.reduceLE, Int32.reduceLT, pq_nes, eq_self]
      · simp (disch := omega) only [f_X9_ranked, f_X9_fails, q9_in, pq_m1 hM, hg, pq_bd, pq_ck, pq_bx, rc_lt, pq_i10, pq_i01, pq_upE, pq_udE, pq_uu, pq_gu hg, h1, hl9, hf, not_false_eq_true, not_true_eq_false, and_self, and_true, true_and, and_false, false_and, or_true, true_or, or_false, false_or, if_true, if_false, ↓reduceIte, Decidable.not_not, ne_eq, Int32.reduceLE, Int32.reduceLT, pq_nes, eq_self]
  · refine pq_Qm 3 1 (0 : Int32) 0 (by simp) (by simp) ?_ ?_
    · simp (disch := omega) only [f_X8_ranked, q8_out, pq_bd, pq_ck, pq_bx, rc_lt, pq_i10, pq_i01, pq_x1 hX, pq_x2 hX, pq_x5 hX, pq_x6 hX, pq_x8 hX, pq_k0 hK, pq_k1 hK, pq_k3 hK, pq_k4 hK, pq_kp hK, pq_ks hK, if_neg h1, not_false_eq_true, not_true_eq_false, and_self, and_true, true_and, and_false, false_and, or_true, true_or, or_false, false_or, if_true, if_false, ↓reduceIte, Decidable.not_not, ne_eq, Int32.reduceLE, Int32.reduceLT, pq_nes, eq_self]
    · simp (disch := omega) only [f_X9_ranked, f_X9_fails, q9_in, pq_m1 hM, hg, pq_bd, pq_ck, pq_bx, rc_lt, pq_i10, pq_i01, pq_upE, pq_udE, pq_uu, pq_gu hg, if_neg h1, not_false_eq_true, not_true_eq_false, and_self, and_true, true_and, and_false, false_and, or_true, true_or, or_false, false_or, if_true, if_false, ↓reduceIte, Decidable.not_not, ne_eq, Int32.reduceLE, Int32.reduceLT, pq_nes, eq_self]
end PQQ4
