/-! THE PURE PART: numbers -/
theorem pq_cl {n : Nat} (h : n < 2147483648) : (Int32.ofNat n).toNatClampNeg = n := Int32.toNatClampNeg_ofNat_of_lt h
theorem pq_ti {n : Nat} (h : n < 2147483648) : (Int32.ofNat n).toInt = n := Int32.toInt_ofNat_of_lt h
theorem pq_le {n m : Nat} (hn : n < 2147483648) (hm : m < 2147483648) : (Int32.ofNat n ≤ Int32.ofNat m) ↔ n ≤ m := Int32.ofNat_le_iff_le hn hm
theorem pq_lt {n m : Nat} (hn : n < 2147483648) (hm : m < 2147483648) : (Int32.ofNat n < Int32.ofNat m) ↔ n < m := Int32.ofNat_lt_iff_lt hn hm
theorem pq_eq {n m : Nat} (hn : n < 2147483648) (hm : m < 2147483648) : (Int32.ofNat n = Int32.ofNat m) ↔ n = m := ⟨fun h => by have := congrArg Int32.toInt h; rw [pq_ti hn, pq_ti hm] at this; omega, fun h => by rw [h]⟩
theorem pq_s {n : Nat} : Int32.ofNat n + 1 = Int32.ofNat (n + 1) := (Int32.ofNat_add n 1).symm
theorem pq_in {n m : Nat} (h : n < m) (hm : m < 2147483648) : rc_in (Int32.ofNat n) m = true := rc_in_iff.mpr (by
  unfold vp_in
  rw [pq_cl (by omega), Int32.lt_iff_toInt_lt, pq_ti (by omega)]
  simp
  omega)
theorem pq_nin {n m : Nat} (h : m ≤ n) (hm : n < 2147483648) : rc_in (Int32.ofNat n) m = false := by
  unfold rc_in
  rw [pq_cl hm]
  simp [h]
/-- a number between 0 and the count is an index -/
theorem pq_nat {u : Int32} {n : Nat} (h0 : ¬ u < 0) (h1 : u < Int32.ofNat n) (hn : n < 2147483648) : ∃ b, b < n ∧ u = Int32.ofNat b := by
  rw [Int32.lt_iff_toInt_lt] at h0 h1
  rw [pq_ti hn] at h1
  rw [Int32.toInt_zero] at h0
  refine ⟨u.toInt.toNat, by omega, ?_⟩
  rw [← Int32.toInt_inj, pq_ti (by omega)]
  omega
theorem pq_natL {u : Int32} {n : Nat} (h0 : 0 ≤ u.toInt) (h1 : u.toInt ≤ n) (hn : n < 2147483648) : ∃ b, b ≤ n ∧ u = Int32.ofNat b := by
  refine ⟨u.toInt.toNat, by omega, ?_⟩
  rw [← Int32.toInt_inj, pq_ti (by omega)]
  omega
theorem pq_g1 (a u : Int32) (h : 0 ≤ a) : (a - 1 < u) ↔ a ≤ u := by grind
theorem pq_g2 (a b c : Int32) : a + b + c = c + b + a := by grind
theorem pq_g3 (a b c d s : Int32) : (1 * s - a) + (2 * s - b) + ((3 * s - c) + (4 * s - d)) = 10 * s - (a + b + c + d) := by grind
theorem pq_g4 (t : Int32) : (if 9 < t then 9 else t) = (if t < 9 then t else 9) := by grind
theorem pq_g5 (l h : Int32) (h0 : 0 ≤ l) (h1 : ¬ 0 < l) : l = 0 := by grind
def pq_fd (f : Nat → Int32 → Int32) : Nat → Nat → Int32 → Int32
  | _, 0, a => a
  | i, d + 1, a => pq_fd f (i + 1) d (f i a)
def pq_K (rf : rc_F) (c : Nat) : Prop := rf c 0 = c + 1 ∧ rf c 1 = c + 2 ∧ rf c 3 = c + 3 ∧ rf c 4 = c + 6 ∧ rf (c + 3) 0 = c + 4 ∧ rf (c + 3) 1 = c + 5 ∧ (∀ b, b < 8 → rf (c + 2) b = c + 7 + b) ∧ (∀ q, q < 12 → rf (c + 6) q = c + 15 + q)
theorem pq_k0 {rf : rc_F} {c : Nat} (h : pq_K rf c) : rf c 0 = c + 1 := h.1
theorem pq_k1 {rf : rc_F} {c : Nat} (h : pq_K rf c) : rf c 1 = c + 2 := h.2.1
theorem pq_k3 {rf : rc_F} {c : Nat} (h : pq_K rf c) : rf c 3 = c + 3 := h.2.2.1
theorem pq_k4 {rf : rc_F} {c : Nat} (h : pq_K rf c) : rf c 4 = c + 6 := h.2.2.2.1
theorem pq_kp {rf : rc_F} {c : Nat} (h : pq_K rf c) : rf (c + 3) 0 = c + 4 := h.2.2.2.2.1
theorem pq_ks {rf : rc_F} {c : Nat} (h : pq_K rf c) : rf (c + 3) 1 = c + 5 := h.2.2.2.2.2.1
theorem pq_kb {rf : rc_F} {c b : Nat} (h : pq_K rf c) (hb : b < 8) : rf (c + 2) b = c + 7 + b := h.2.2.2.2.2.2.1 b hb
theorem pq_kr {rf : rc_F} {c q : Nat} (h : pq_K rf c) (hq : q < 12) : rf (c + 6) q = c + 15 + q := h.2.2.2.2.2.2.2 q hq
def pq_M (rf : rc_F) (m : Nat) : Prop := rf m 1 = m + 1 ∧ rf m 2 = m + 2 ∧ rf m 3 = m + 3 ∧ rf m 4 = m + 4 ∧ rf m 7 = m + 5 ∧ rf m 8 = m + 6 ∧ rf m 9 = m + 7
theorem pq_m1 {rf : rc_F} {m : Nat} (h : pq_M rf m) : rf m 1 = m + 1 := h.1
theorem pq_m2 {rf : rc_F} {m : Nat} (h : pq_M rf m) : rf m 2 = m + 2 := h.2.1
theorem pq_m3 {rf : rc_F} {m : Nat} (h : pq_M rf m) : rf m 3 = m + 3 := h.2.2.1
theorem pq_m4 {rf : rc_F} {m : Nat} (h : pq_M rf m) : rf m 4 = m + 4 := h.2.2.2.1
theorem pq_m7 {rf : rc_F} {m : Nat} (h : pq_M rf m) : rf m 7 = m + 5 := h.2.2.2.2.1
theorem pq_m8 {rf : rc_F} {m : Nat} (h : pq_M rf m) : rf m 8 = m + 6 := h.2.2.2.2.2.1
theorem pq_m9 {rf : rc_F} {m : Nat} (h : pq_M rf m) : rf m 9 = m + 7 := h.2.2.2.2.2.2
/-- what the cellar at c holds, in the reference's order of numbers -/
def pq_R (σ : rc_S) (c : Nat) (g : Nat → Int32) (n p : Nat) : Prop :=
  (σ c 2 = g 0 ∧ σ (c + 3) 2 = g 1 ∧ σ c 6 = g 2 ∧ σ c 7 = g 3 ∧ σ c 5 = g 4 ∧ σ c 8 = g 5 ∧ σ c 9 = g 6 ∧ σ c 10 = g 7 ∧ σ c 11 = g 8 ∧ σ c 12 = g 9 ∧ σ c 13 = g 10) ∧
  (∀ r, r < 4 → σ (c + 1) r = g (11 + r)) ∧
  (∀ b, b < n → σ (c + 7 + b) 0 = g (15 + 6 * b) ∧ σ (c + 7 + b) 1 = g (16 + 6 * b) ∧ σ (c + 7 + b) 2 = g (17 + 6 * b) ∧ σ (c + 7 + b) 3 = g (18 + 6 * b) ∧ σ (c + 7 + b) 5 = g (19 + 6 * b) ∧ σ (c + 7 + b) 4 = g (20 + 6 * b)) ∧
  (∀ j, j < p → σ (c + 4) j = g (63 + 2 * j) ∧ σ (c + 5) j = g (64 + 2 * j)) ∧
  (∀ q, q < 12 → σ (c + 15 + q) 0 = g (71 + 3 * q) ∧ σ (c + 15 + q) 1 = g (72 + 3 * q) ∧ σ (c + 15 + q) 2 = g (73 + 3 * q))
section PQR
variable {σ : rc_S} {c : Nat} {g : Nat → Int32} {n p : Nat}
theorem pq_c0 (h : pq_R σ c g n p) : σ c 2 = g 0 := h.1.1
theorem pq_c1 (h : pq_R σ c g n p) : σ (c + 3) 2 = g 1 := h.1.2.1
theorem pq_c2 (h : pq_R σ c g n p) : σ c 6 = g 2 := h.1.2.2.1
theorem pq_c3 (h : pq_R σ c g n p) : σ c 7 = g 3 := h.1.2.2.2.1
theorem pq_c4 (h : pq_R σ c g n p) : σ c 5 = g 4 := h.1.2.2.2.2.1
theorem pq_c5 (h : pq_R σ c g n p) : σ c 8 = g 5 := h.1.2.2.2.2.2.1
theorem pq_c6 (h : pq_R σ c g n p) : σ c 9 = g 6 := h.1.2.2.2.2.2.2.1
theorem pq_c7 (h : pq_R σ c g n p) : σ c 10 = g 7 := h.1.2.2.2.2.2.2.2.1
theorem pq_c8 (h : pq_R σ c g n p) : σ c 11 = g 8 := h.1.2.2.2.2.2.2.2.2.1
theorem pq_c9 (h : pq_R σ c g n p) : σ c 12 = g 9 := h.1.2.2.2.2.2.2.2.2.2.1
theorem pq_c10 (h : pq_R σ c g n p) : σ c 13 = g 10 := h.1.2.2.2.2.2.2.2.2.2.2
theorem pq_cm (h : pq_R σ c g n p) {r : Nat} (hr : r < 4) : σ (c + 1) r = g (11 + r) := h.2.1 r hr
theorem pq_b0 (h : pq_R σ c g n p) {b : Nat} (hb : b < n) : σ (c + 7 + b) 0 = g (15 + 6 * b) := (h.2.2.1 b hb).1
theorem pq_b1 (h : pq_R σ c g n p) {b : Nat} (hb : b < n) : σ (c + 7 + b) 1 = g (16 + 6 * b) := (h.2.2.1 b hb).2.1
theorem pq_b2 (h : pq_R σ c g n p) {b : Nat} (hb : b < n) : σ (c + 7 + b) 2 = g (17 + 6 * b) := (h.2.2.1 b hb).2.2.1
theorem pq_b3 (h : pq_R σ c g n p) {b : Nat} (hb : b < n) : σ (c + 7 + b) 3 = g (18 + 6 * b) := (h.2.2.1 b hb).2.2.2.1
theorem pq_b4 (h : pq_R σ c g n p) {b : Nat} (hb : b < n) : σ (c + 7 + b) 5 = g (19 + 6 * b) := (h.2.2.1 b hb).2.2.2.2.1
theorem pq_b5 (h : pq_R σ c g n p) {b : Nat} (hb : b < n) : σ (c + 7 + b) 4 = g (20 + 6 * b) := (h.2.2.1 b hb).2.2.2.2.2
theorem pq_pp (h : pq_R σ c g n p) {j : Nat} (hj : j < p) : σ (c + 4) j = g (63 + 2 * j) := (h.2.2.2.1 j hj).1
theorem pq_ps (h : pq_R σ c g n p) {j : Nat} (hj : j < p) : σ (c + 5) j = g (64 + 2 * j) := (h.2.2.2.1 j hj).2
theorem pq_q0 (h : pq_R σ c g n p) {q : Nat} (hq : q < 12) : σ (c + 15 + q) 0 = g (71 + 3 * q) := (h.2.2.2.2 q hq).1
theorem pq_q1 (h : pq_R σ c g n p) {q : Nat} (hq : q < 12) : σ (c + 15 + q) 1 = g (72 + 3 * q) := (h.2.2.2.2 q hq).2.1
theorem pq_q2 (h : pq_R σ c g n p) {q : Nat} (hq : q < 12) : σ (c + 15 + q) 2 = g (73 + 3 * q) := (h.2.2.2.2 q hq).2.2
end PQR
/-- what always holds of the numbers; N: how many calls there were -/
def pq_V (g : Nat → Int32) (n p N : Nat) : Prop :=
  (g 0 = Int32.ofNat n ∧ n ≤ 8) ∧ (g 1 = Int32.ofNat p ∧ p ≤ 4) ∧ (0 ≤ (g 2).toInt ∧ (g 2).toInt ≤ 9) ∧ (0 ≤ (g 3).toInt ∧ (g 3).toInt ≤ N) ∧ (0 ≤ (g 4).toInt ∧ (g 4).toInt ≤ N) ∧
  (∀ r, r < 4 → 0 ≤ (g (11 + r)).toInt ∧ (g (11 + r)).toInt ≤ 9) ∧
  (∀ b, b < n → (0 ≤ (g (15 + 6 * b)).toInt ∧ (g (15 + 6 * b)).toInt ≤ 3) ∧ (0 ≤ (g (17 + 6 * b)).toInt ∧ (g (17 + 6 * b)).toInt ≤ (g (16 + 6 * b)).toInt ∧ (g (16 + 6 * b)).toInt ≤ 20) ∧
    (-1 ≤ (g (18 + 6 * b)).toInt ∧ (g (18 + 6 * b)).toInt ≤ N) ∧ (0 ≤ (g (19 + 6 * b)).toInt ∧ (g (19 + 6 * b)).toInt ≤ 9) ∧ (0 ≤ (g (20 + 6 * b)).toInt ∧ (g (20 + 6 * b)).toInt ≤ (g 3).toInt) ∧
    (g (16 + 6 * b) = 0 → g (17 + 6 * b) = 0 ∧ g (18 + 6 * b) = -1 ∧ g (19 + 6 * b) = 0 ∧ g (20 + 6 * b) = 0) ∧ (g (16 + 6 * b) ≠ 0 → 0 ≤ (g (18 + 6 * b)).toInt)) ∧
  (∀ j, j < p → (0 ≤ (g (63 + 2 * j)).toInt ∧ (g (63 + 2 * j)).toInt ≤ 9) ∧ (g (64 + 2 * j) = 0 ∨ g (64 + 2 * j) = 1))
