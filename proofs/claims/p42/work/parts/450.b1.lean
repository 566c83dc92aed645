/-! WHAT THE LAW'S QUESTIONS ANSWER -/
section PAQ
variable {rf : rc_F} {z : rc_Z} {σ : rc_S} {x : Nat} {g : Nat → Int32} {n p N b j : Nat}
theorem pb_u (hV : pq_V g n p N) (hb : b < n) : ¬ Int32.ofNat b < 0 ∧ Int32.ofNat b < g 0 := by
  have h8 := pq_vn hV
  rw [pq_v0 hV]
  exact ⟨fun q => by rw [Int32.lt_iff_toInt_lt, pq_ti (by omega), Int32.toInt_zero] at q; omega, (pq_lt (by omega) (by omega)).mpr hb⟩
theorem pb_s (hV : pq_V g n p N) (hj : j < p) : ¬ Int32.ofNat j < 0 ∧ Int32.ofNat j < g 1 := by
  have h8 := pq_vp hV
  rw [pq_v1 hV]
  exact ⟨fun q => by rw [Int32.lt_iff_toInt_lt, pq_ti (by omega), Int32.toInt_zero] at q; omega, (pq_lt (by omega) (by omega)).mpr hj⟩
theorem pb_o (hV : pq_V g n p N) : ¬ (¬ Int32.ofNat n < 0 ∧ Int32.ofNat n < g 0) := by
  rw [pq_v0 hV]
  exact fun q => Int32.lt_irrefl q.2
theorem pb_n0 (hn : j < 1000) : ¬ Int32.ofNat j < 0 := fun q => by rw [Int32.lt_iff_toInt_lt, pq_ti (by omega), Int32.toInt_zero] at q; omega
theorem pb_4 (hj : j < 4) : ¬ Int32.ofNat j < 0 ∧ ¬ 3 < Int32.ofNat j := ⟨pb_n0 (by omega), fun q => by have := (pq_lt (n := 3) (by decide) (by omega)).mp q; omega⟩
def pb_fl (g : Nat → Int32) (n : Nat) : Int32 := pq_fd (fun b a => a + g (16 + 6 * b)) 0 n 0
def pb_fh (g : Nat → Int32) (n : Nat) : Int32 := pq_fd (fun b a => a + g (17 + 6 * b)) 0 n 0
theorem qf_acc0 (hX : pq_X rf x) (hR : pq_R σ (x + 2) g n p) (hV : pq_V g n p N)  : f_X8_account rf x (0 : Int32) σ = some (0, g 0, σ) := by
  have hK := pq_xk hX
  have h8 := pq_vn hV
  have h4 := pq_vp hV
  have hl7 : ¬ (7 : Int32) = 0 ∧ ¬ (7 : Int32) = 1 ∧ ¬ (7 : Int32) = 2 ∧ ¬ (7 : Int32) = 3 ∧ ¬ (7 : Int32) = 4 ∧ ¬ (7 : Int32) = 5 ∧ ¬ (7 : Int32) = 6 := by decide
  have hl8 : ¬ (8 : Int32) = 0 ∧ ¬ (8 : Int32) = 1 ∧ ¬ (8 : Int32) = 2 ∧ ¬ (8 : Int32) = 3 ∧ ¬ (8 : Int32) = 4 ∧ ¬ (8 : Int32) = 5 ∧ ¬ (8 : Int32) = 6 ∧ ¬ (8 : Int32) = 7 := by decide
  have hl9 : ¬ (9 : Int32) = 0 ∧ ¬ (9 : Int32) = 1 ∧ ¬ (9 : Int32) = 2 ∧ ¬ (9 : Int32) = 3 ∧ ¬ (9 : Int32) = 4 ∧ ¬ (9 : Int32) = 5 ∧ ¬ (9 : Int32) = 6 ∧ ¬ (9 : Int32) = 7 ∧ ¬ (9 : Int32) = 8 := by decide
  have hl10 : ¬ (10 : Int32) = 0 ∧ ¬ (10 : Int32) = 1 ∧ ¬ (10 : Int32) = 2 ∧ ¬ (10 : Int32) = 3 ∧ ¬ (10 : Int32) = 4 ∧ ¬ (10 : Int32) = 5 ∧ ¬ (10 : Int32) = 6 ∧ ¬ (10 : Int32) = 7 ∧ ¬ (10 : Int32) = 8 ∧ ¬ (10 : Int32) = 9 := by decide
  have hl11 : ¬ (11 : Int32) = 0 ∧ ¬ (11 : Int32) = 1 ∧ ¬ (11 : Int32) = 2 ∧ ¬ (11 : Int32) = 3 ∧ ¬ (11 : Int32) = 4 ∧ ¬ (11 : Int32) = 5 ∧ ¬ (11 : Int32) = 6 ∧ ¬ (11 : Int32) = 7 ∧ ¬ (11 : Int32) = 8 ∧ ¬ (11 : Int32) = 9 ∧ ¬ (11 : Int32) = 10 := by decide
  simp (disch := omega) only [f_X8_account, pq_bd, pq_ck, pq_bx, rc_lt, pq_i10, pq_i01, pq_x1 hX, pq_x2 hX, pq_x5 hX, pq_x6 hX, pq_x8 hX, pq_k0 hK, pq_k1 hK, pq_k3 hK, pq_k4 hK, pq_kp hK, pq_ks hK, pq_c0 hR, pq_c1 hR, pq_c2 hR, pq_c3 hR, pq_c4 hR, pq_c5 hR, pq_c6 hR, pq_c7 hR, pq_c8 hR, pq_c9 hR, pq_c10 hR, hl7, hl8, hl9, hl10, hl11, q_1_litresInBarrels hK hR hV, pb_fl, not_false_eq_true, not_true_eq_false, and_self, and_true, true_and, and_false, false_and, or_true, true_or, or_false, false_or, if_true, if_false, ↓reduceIte, Decidable.not_not, ne_eq, Int32.reduceLE, Int32.reduceLT, pq_nes, eq_self]
theorem ql_acc0 (hX : pq_X rf x) (hR : pq_R σ (x + 2) g n p) (hV : pq_V g n p N)  : f_L_account rf z x (0 : Int32) σ = some (g 0, σ) := by
  rw [f_L_account, qf_acc0 hX hR hV ]
  first | rfl | (simp only [rc_tr, rc_mz]; rfl)
theorem qf_acc1 (hX : pq_X rf x) (hR : pq_R σ (x + 2) g n p) (hV : pq_V g n p N)  : f_X8_account rf x (1 : Int32) σ = some (0, pb_fl g n, σ) := by
  have hK := pq_xk hX
  have h8 := pq_vn hV
  have h4 := pq_vp hV
  have hl7 : ¬ (7 : Int32) = 0 ∧ ¬ (7 : Int32) = 1 ∧ ¬ (7 : Int32) = 2 ∧ ¬ (7 : Int32) = 3 ∧ ¬ (7 : Int32) = 4 ∧ ¬ (7 : Int32) = 5 ∧ ¬ (7 : Int32) = 6 := by decide
  have hl8 : ¬ (8 : Int32) = 0 ∧ ¬ (8 : Int32) = 1 ∧ ¬ (8 : Int32) = 2 ∧ ¬ (8 : Int32) = 3 ∧ ¬ (8 : Int32) = 4 ∧ ¬ (8 : Int32) = 5 ∧ ¬ (8 : Int32) = 6 ∧ ¬ (8 : Int32) = 7 := by decide
  have hl9 : ¬ (9 : Int32) = 0 ∧ ¬ (9 : Int32) = 1 ∧ ¬ (9 : Int32) = 2 ∧ ¬ (9 : Int32) = 3 ∧ ¬ (9 : Int32) = 4 ∧ ¬ (9 : Int32) = 5 ∧ ¬ (9 : Int32) = 6 ∧ ¬ (9 : Int32) = 7 ∧ ¬ (9 : Int32) = 8 := by decide
  have hl10 : ¬ (10 : Int32) = 0 ∧ ¬ (10 : Int32) = 1 ∧ ¬ (10 : Int32) = 2 ∧ ¬ (10 : Int32) = 3 ∧ ¬ (10 : Int32) = 4 ∧ ¬ (10 : Int32) = 5 ∧ ¬ (10 : Int32) = 6 ∧ ¬ (10 : Int32) = 7 ∧ ¬ (10 : Int32) = 8 ∧ ¬ (10 : Int32) = 9 := by decide
  have hl11 : ¬ (11 : Int32) = 0 ∧ ¬ (11 : Int32) = 1 ∧ ¬ (11 : Int32) = 2 ∧ ¬ (11 : Int32) = 3 ∧ ¬ (11 : Int32) = 4 ∧ ¬ (11 : Int32) = 5 ∧ ¬ (11 : Int32) = 6 ∧ ¬ (11 : Int32) = 7 ∧ ¬ (11 : Int32) = 8 ∧ ¬ (11 : Int32) = 9 ∧ ¬ (11 : Int32) = 10 := by decide
  simp (disch := omega) only [f_X8_account, pq_bd, pq_ck, pq_bx, rc_lt, pq_i10, pq_i01, pq_x1 hX, pq_x2 hX, pq_x5 hX, pq_x6 hX, pq_x8 hX, pq_k0 hK, pq_k1 hK, pq_k3 hK, pq_k4 hK, pq_kp hK, pq_ks hK, pq_c0 hR, pq_c1 hR, pq_c2 hR, pq_c3 hR, pq_c4 hR, pq_c5 hR, pq_c6 hR, pq_c7 hR, pq_c8 hR, pq_c9 hR, pq_c10 hR, hl7, hl8, hl9, hl10, hl11, q_1_litresInBarrels hK hR hV, pb_fl, not_false_eq_true, not_true_eq_false, and_self, and_true, true_and, and_false, false_and, or_true, true_or, or_false, false_or, if_true, if_false, ↓reduceIte, Decidable.not_not, ne_eq, Int32.reduceLE, Int32.reduceLT, pq_nes, eq_self]
theorem ql_acc1 (hX : pq_X rf x) (hR : pq_R σ (x + 2) g n p) (hV : pq_V g n p N)  : f_L_account rf z x (1 : Int32) σ = some (pb_fl g n, σ) := by
  rw [f_L_account, qf_acc1 hX hR hV ]
  first | rfl | (simp only [rc_tr, rc_mz]; rfl)
theorem qf_acc2 (hX : pq_X rf x) (hR : pq_R σ (x + 2) g n p) (hV : pq_V g n p N)  : f_X8_account rf x (2 : Int32) σ = some (0, g 2, σ) := by
  have hK := pq_xk hX
  have h8 := pq_vn hV
  have h4 := pq_vp hV
  have hl7 : ¬ (7 : Int32) = 0 ∧ ¬ (7 : Int32) = 1 ∧ ¬ (7 : Int32) = 2 ∧ ¬ (7 : Int32) = 3 ∧ ¬ (7 : Int32) = 4 ∧ ¬ (7 : Int32) = 5 ∧ ¬ (7 : Int32) = 6 := by decide
  have hl8 : ¬ (8 : Int32) = 0 ∧ ¬ (8 : Int32) = 1 ∧ ¬ (8 : Int32) = 2 ∧ ¬ (8 : Int32) = 3 ∧ ¬ (8 : Int32) = 4 ∧ ¬ (8 : Int32) = 5 ∧ ¬ (8 : Int32) = 6 ∧ ¬ (8 : Int32) = 7 := by decide
  have hl9 : ¬ (9 : Int32) = 0 ∧ ¬ (9 : Int32) = 1 ∧ ¬ (9 : Int32) = 2 ∧ ¬ (9 : Int32) = 3 ∧ ¬ (9 : Int32) = 4 ∧ ¬ (9 : Int32) = 5 ∧ ¬ (9 : Int32) = 6 ∧ ¬ (9 : Int32) = 7 ∧ ¬ (9 : Int32) = 8 := by decide
  have hl10 : ¬ (10 : Int32) = 0 ∧ ¬ (10 : Int32) = 1 ∧ ¬ (10 : Int32) = 2 ∧ ¬ (10 : Int32) = 3 ∧ ¬ (10 : Int32) = 4 ∧ ¬ (10 : Int32) = 5 ∧ ¬ (10 : Int32) = 6 ∧ ¬ (10 : Int32) = 7 ∧ ¬ (10 : Int32) = 8 ∧ ¬ (10 : Int32) = 9 := by decide
  have hl11 : ¬ (11 : Int32) = 0 ∧ ¬ (11 : Int32) = 1 ∧ ¬ (11 : Int32) = 2 ∧ ¬ (11 : Int32) = 3 ∧ ¬ (11 : Int32) = 4 ∧ ¬ (11 : Int32) = 5 ∧ ¬ (11 : Int32) = 6 ∧ ¬ (11 : Int32) = 7 ∧ ¬ (11 : Int32) = 8 ∧ ¬ (11 : Int32) = 9 ∧ ¬ (11 : Int32) = 10 := by decide
  simp (disch := omega) only [f_X8_account, pq_bd, pq_ck, pq_bx, rc_lt, pq_i10, pq_i01, pq_x1 hX, pq_x2 hX, pq_x5 hX, pq_x6 hX, pq_x8 hX, pq_k0 hK, pq_k1 hK, pq_k3 hK, pq_k4 hK, pq_kp hK, pq_ks hK, pq_c0 hR, pq_c1 hR, pq_c2 hR, pq_c3 hR, pq_c4 hR, pq_c5 hR, pq_c6 hR, pq_c7 hR, pq_c8 hR, pq_c9 hR, pq_c10 hR, hl7, hl8, hl9, hl10, hl11, q_1_litresInBarrels hK hR hV, pb_fl, not_false_eq_true, not_true_eq_false, and_self, and_true, true_and, and_false, false_and, or_true, true_or, or_false, false_or, if_true, if_false, ↓reduceIte, Decidable.not_not, ne_eq, Int32.reduceLE, Int32.reduceLT, pq_nes, eq_self]
theorem ql_acc2 (hX : pq_X rf x) (hR : pq_R σ (x + 2) g n p) (hV : pq_V g n p N)  : f_L_account rf z x (2 : Int32) σ = some (g 2, σ) := by
  rw [f_L_account, qf_acc2 hX hR hV ]
  first | rfl | (simp only [rc_tr, rc_mz]; rfl)
theorem qf_acc3 (hX : pq_X rf x) (hR : pq_R σ (x + 2) g n p) (hV : pq_V g n p N)  : f_X8_account rf x (3 : Int32) σ = some (0, g 1, σ) := by
  have hK := pq_xk hX
  have h8 := pq_vn hV
  have h4 := pq_vp hV
  have hl7 : ¬ (7 : Int32) = 0 ∧ ¬ (7 : Int32) = 1 ∧ ¬ (7 : Int32) = 2 ∧ ¬ (7 : Int32) = 3 ∧ ¬ (7 : Int32) = 4 ∧ ¬ (7 : Int32) = 5 ∧ ¬ (7 : Int32) = 6 := by decide
  have hl8 : ¬ (8 : Int32) = 0 ∧ ¬ (8 : Int32) = 1 ∧ ¬ (8 : Int32) = 2 ∧ ¬ (8 : Int32) = 3 ∧ ¬ (8 : Int32) = 4 ∧ ¬ (8 : Int32) = 5 ∧ ¬ (8 : Int32) = 6 ∧ ¬ (8 : Int32) = 7 := by decide
  have hl9 : ¬ (9 : Int32) = 0 ∧ ¬ (9 : Int32) = 1 ∧ ¬ (9 : Int32) = 2 ∧ ¬ (9 : Int32) = 3 ∧ ¬ (9 : Int32) = 4 ∧ ¬ (9 : Int32) = 5 ∧ ¬ (9 : Int32) = 6 ∧ ¬ (9 : Int32) = 7 ∧ ¬ (9 : Int32) = 8 := by decide
  have hl10 : ¬ (10 : Int32) = 0 ∧ ¬ (10 : Int32) = 1 ∧ ¬ (10 : Int32) = 2 ∧ ¬ (10 : Int32) = 3 ∧ ¬ (10 : Int32) = 4 ∧ ¬ (10 : Int32) = 5 ∧ ¬ (10 : Int32) = 6 ∧ ¬ (10 : Int32) = 7 ∧ ¬ (10 : Int32) = 8 ∧ ¬ (10 : Int32) = 9 := by decide
  have hl11 : ¬ (11 : Int32) = 0 ∧ ¬ (11 : Int32) = 1 ∧ ¬ (11 : Int32) = 2 ∧ ¬ (11 : Int32) = 3 ∧ ¬ (11 : Int32) = 4 ∧ ¬ (11 : Int32) = 5 ∧ ¬ (11 : Int32) = 6 ∧ ¬ (11 : Int32) = 7 ∧ ¬ (11 : Int32) = 8 ∧ ¬ (11 : Int32) = 9 ∧ ¬ (11 : Int32) = 10 := by decide
  simp (disch := omega) only [f_X8_account, pq_bd, pq_ck, pq_bx, rc_lt, pq_i10, pq_i01, pq_x1 hX, pq_x2 hX, pq_x5 hX, pq_x6 hX, pq_x8 hX, pq_k0 hK, pq_k1 hK, pq_k3 hK, pq_k4 hK, pq_kp hK, pq_ks hK, pq_c0 hR, pq_c1 hR, pq_c2 hR, pq_c3 hR, pq_c4 hR, pq_c5 hR, pq_c6 hR, pq_c7 hR, pq_c8 hR, pq_c9 hR, pq_c10 hR, hl7, hl8, hl9, hl10, hl11, q_1_litresInBarrels hK hR hV, pb_fl, not_false_eq_true, not_true_eq_false, and_self, and_true, true_and, and_false, false_and, or_true, true_or, or_false, false_or, if_true, if_false, ↓reduceIte, Decidable.not_not, ne_eq, Int32.reduceLE, Int32.reduceLT, pq_nes, eq_self]
theorem ql_acc3 (hX : pq_X rf x) (hR : pq_R σ (x + 2) g n p) (hV : pq_V g n p N)  : f_L_account rf z x (3 : Int32) σ = some (g 1, σ) := by
  rw [f_L_account, qf_acc3 hX hR hV ]
  first | rfl | (simp only [rc_tr, rc_mz]; rfl)
theorem qf_acc4 (hX : pq_X rf x) (hR : pq_R σ (x + 2) g n p) (hV : pq_V g n p N)  : f_X8_account rf x (4 : Int32) σ = some (0, g 3, σ) := by
  have hK := pq_xk hX
  have h8 := pq_vn hV
  have h4 := pq_vp hV
  have hl7 : ¬ (7 : Int32) = 0 ∧ ¬ (7 : Int32) = 1 ∧ ¬ (7 : Int32) = 2 ∧ ¬ (7 : Int32) = 3 ∧ ¬ (7 : Int32) = 4 ∧ ¬ (7 : Int32) = 5 ∧ ¬ (7 : Int32) = 6 := by decide
  have hl8 : ¬ (8 : Int32) = 0 ∧ ¬ (8 : Int32) = 1 ∧ ¬ (8 : Int32) = 2 ∧ ¬ (8 : Int32) = 3 ∧ ¬ (8 : Int32) = 4 ∧ ¬ (8 : Int32) = 5 ∧ ¬ (8 : Int32) = 6 ∧ ¬ (8 : Int32) = 7 := by decide
  have hl9 : ¬ (9 : Int32) = 0 ∧ ¬ (9 : Int32) = 1 ∧ ¬ (9 : Int32) = 2 ∧ ¬ (9 : Int32) = 3 ∧ ¬ (9 : Int32) = 4 ∧ ¬ (9 : Int32) = 5 ∧ ¬ (9 : Int32) = 6 ∧ ¬ (9 : Int32) = 7 ∧ ¬ (9 : Int32) = 8 := by decide
  have hl10 : ¬ (10 : Int32) = 0 ∧ ¬ (10 : Int32) = 1 ∧ ¬ (10 : Int32) = 2 ∧ ¬ (10 : Int32) = 3 ∧ ¬ (10 : Int32) = 4 ∧ ¬ (10 : Int32) = 5 ∧ ¬ (10 : Int32) = 6 ∧ ¬ (10 : Int32) = 7 ∧ ¬ (10 : Int32) = 8 ∧ ¬ (10 : Int32) = 9 := by decide
  have hl11 : ¬ (11 : Int32) = 0 ∧ ¬ (11 : Int32) = 1 ∧ ¬ (11 : Int32) = 2 ∧ ¬ (11 : Int32) = 3 ∧ ¬ (11 : Int32) = 4 ∧ ¬ (11 : Int32) = 5 ∧ ¬ (11 : Int32) = 6 ∧ ¬ (11 : Int32) = 7 ∧ ¬ (11 : Int32) = 8 ∧ ¬ (11 : Int32) = 9 ∧ ¬ (11 : Int32) = 10 := by decide
  simp (disch := omega) only [f_X8_account, pq_bd, pq_ck, pq_bx, rc_lt, pq_i10, pq_i01, pq_x1 hX, pq_x2 hX, pq_x5 hX, pq_x6 hX, pq_x8 hX, pq_k0 hK, pq_k1 hK, pq_k3 hK, pq_k4 hK, pq_kp hK, pq_ks hK, pq_c0 hR, pq_c1 hR, pq_c2 hR, pq_c3 hR, pq_c4 hR, pq_c5 hR, pq_c6 hR, pq_c7 hR, pq_c8 hR, pq_c9 hR, pq_c10 hR, hl7, hl8, hl9, hl10, hl11, q_1_litresInBarrels hK hR hV, pb_fl, not_false_eq_true, not_true_eq_false, and_self, and_true, true_and, and_false, false_and, or_true, true_or, or_false, false_or, if_true, if_false, ↓reduceIte, Decidable.not_not, ne_eq, Int32.reduceLE, Int32.reduceLT, pq_nes, eq_self]
theorem ql_acc4 (hX : pq_X rf x) (hR : pq_R σ (x + 2) g n p) (hV : pq_V g n p N)  : f_L_account rf z x (4 : Int32) σ = some (g 3, σ) := by
  rw [f_L_account, qf_acc4 hX hR hV ]
  first | rfl | (simp only [rc_tr, rc_mz]; rfl)
theorem qf_acc5 (hX : pq_X rf x) (hR : pq_R σ (x + 2) g n p) (hV : pq_V g n p N)  : f_X8_account rf x (5 : Int32) σ = some (0, g 4, σ) := by
  have hK := pq_xk hX
  have h8 := pq_vn hV
  have h4 := pq_vp hV
  have hl7 : ¬ (7 : Int32) = 0 ∧ ¬ (7 : Int32) = 1 ∧ ¬ (7 : Int32) = 2 ∧ ¬ (7 : Int32) = 3 ∧ ¬ (7 : Int32) = 4 ∧ ¬ (7 : Int32) = 5 ∧ ¬ (7 : Int32) = 6 := by decide
  have hl8 : ¬ (8 : Int32) = 0 ∧ ¬ (8 : Int32) = 1 ∧ ¬ (8 : Int32) = 2 ∧ ¬ (8 : Int32) = 3 ∧ ¬ (8 : Int32) = 4 ∧ ¬ (8 : Int32) = 5 ∧ ¬ (8 : Int32) = 6 ∧ ¬ (8 : Int32) = 7 := by decide
  have hl9 : ¬ (9 : Int32) = 0 ∧ ¬ (9 : Int32) = 1 ∧ ¬ (9 : Int32) = 2 ∧ ¬ (9 : Int32) = 3 ∧ ¬ (9 : Int32) = 4 ∧ ¬ (9 : Int32) = 5 ∧ ¬ (9 : Int32) = 6 ∧ ¬ (9 : Int32) = 7 ∧ ¬ (9 : Int32) = 8 := by decide
  have hl10 : ¬ (10 : Int32) = 0 ∧ ¬ (10 : Int32) = 1 ∧ ¬ (10 : Int32) = 2 ∧ ¬ (10 : Int32) = 3 ∧ ¬ (10 : Int32) = 4 ∧ ¬ (10 : Int32) = 5 ∧ ¬ (10 : Int32) = 6 ∧ ¬ (10 : Int32) = 7 ∧ ¬ (10 : Int32) = 8 ∧ ¬ (10 : Int32) = 9 := by decide
  have hl11 : ¬ (11 : Int32) = 0 ∧ ¬ (11 : Int32) = 1 ∧ ¬ (11 : Int32) = 2 ∧ ¬ (11 : Int32) = 3 ∧ ¬ (11 : Int32) = 4 ∧ ¬ (11 : Int32) = 5 ∧ ¬ (11 : Int32) = 6 ∧ ¬ (11 : Int32) = 7 ∧ ¬ (11 : Int32) = 8 ∧ ¬ (11 : Int32) = 9 ∧ ¬ (11 : Int32) = 10 := by decide
  simp (disch := omega) only [f_X8_account, pq_bd, pq_ck, pq_bx, rc_lt, pq_i10, pq_i01, pq_x1 hX, pq_x2 hX, pq_x5 hX, pq_x6 hX, pq_x8 hX, pq_k0 hK, pq_k1 hK, pq_k3 hK, pq_k4 hK, pq_kp hK, pq_ks hK, pq_c0 hR, pq_c1 hR, pq_c2 hR, pq_c3 hR, pq_c4 hR, pq_c5 hR, pq_c6 hR, pq_c7 hR, pq_c8 hR, pq_c9 hR, pq_c10 hR, hl7, hl8, hl9, hl10, hl11, q_1_litresInBarrels hK hR hV, pb_fl, not_false_eq_true, not_true_eq_false, and_self, and_true, true_and, and_false, false_and, or_true, true_or, or_false, false_or, if_true, if_false, ↓reduceIte, Decidable.not_not, ne_eq, Int32.reduceLE, Int32.reduceLT, pq_nes, eq_self]
theorem ql_acc5 (hX : pq_X rf x) (hR : pq_R σ (x + 2) g n p) (hV : pq_V g n p N)  : f_L_account rf z x (5 : Int32) σ = some (g 4, σ) := by
  rw [f_L_account, qf_acc5 hX hR hV ]
  first | rfl | (simp only [rc_tr, rc_mz]; rfl)
theorem qf_acc6 (hX : pq_X rf x) (hR : pq_R σ (x + 2) g n p) (hV : pq_V g n p N)  : f_X8_account rf x (6 : Int32) σ = some (0, g 7, σ) := by
  have hK := pq_xk hX
  have h8 := pq_vn hV
  have h4 := pq_vp hV
  have hl7 : ¬ (7 : Int32) = 0 ∧ ¬ (7 : Int32) = 1 ∧ ¬ (7 : Int32) = 2 ∧ ¬ (7 : Int32) = 3 ∧ ¬ (7 : Int32) = 4 ∧ ¬ (7 : Int32) = 5 ∧ ¬ (7 : Int32) = 6 := by decide
  have hl8 : ¬ (8 : Int32) = 0 ∧ ¬ (8 : Int32) = 1 ∧ ¬ (8 : Int32) = 2 ∧ ¬ (8 : Int32) = 3 ∧ ¬ (8 : Int32) = 4 ∧ ¬ (8 : Int32) = 5 ∧ ¬ (8 : Int32) = 6 ∧ ¬ (8 : Int32) = 7 := by decide
  have hl9 : ¬ (9 : Int32) = 0 ∧ ¬ (9 : Int32) = 1 ∧ ¬ (9 : Int32) = 2 ∧ ¬ (9 : Int32) = 3 ∧ ¬ (9 : Int32) = 4 ∧ ¬ (9 : Int32) = 5 ∧ ¬ (9 : Int32) = 6 ∧ ¬ (9 : Int32) = 7 ∧ ¬ (9 : Int32) = 8 := by decide
  have hl10 : ¬ (10 : Int32) = 0 ∧ ¬ (10 : Int32) = 1 ∧ ¬ (10 : Int32) = 2 ∧ ¬ (10 : Int32) = 3 ∧ ¬ (10 : Int32) = 4 ∧ ¬ (10 : Int32) = 5 ∧ ¬ (10 : Int32) = 6 ∧ ¬ (10 : Int32) = 7 ∧ ¬ (10 : Int32) = 8 ∧ ¬ (10 : Int32) = 9 := by decide
  have hl11 : ¬ (11 : Int32) = 0 ∧ ¬ (11 : Int32) = 1 ∧ ¬ (11 : Int32) = 2 ∧ ¬ (11 : Int32) = 3 ∧ ¬ (11 : Int32) = 4 ∧ ¬ (11 : Int32) = 5 ∧ ¬ (11 : Int32) = 6 ∧ ¬ (11 : Int32) = 7 ∧ ¬ (11 : Int32) = 8 ∧ ¬ (11 : Int32) = 9 ∧ ¬ (11 : Int32) = 10 := by decide
  simp (disch := omega) only [f_X8_account, pq_bd, pq_ck, pq_bx, rc_lt, pq_i10, pq_i01, pq_x1 hX, pq_x2 hX, pq_x5 hX, pq_x6 hX, pq_x8 hX, pq_k0 hK, pq_k1 hK, pq_k3 hK, pq_k4 hK, pq_kp hK, pq_ks hK, pq_c0 hR, pq_c1 hR, pq_c2 hR, pq_c3 hR, pq_c4 hR, pq_c5 hR, pq_c6 hR, pq_c7 hR, pq_c8 hR, pq_c9 hR, pq_c10 hR, hl7, hl8, hl9, hl10, hl11, q_1_litresInBarrels hK hR hV, pb_fl, not_false_eq_true, not_true_eq_false, and_self, and_true, true_and, and_false, false_and, or_true, true_or, or_false, false_or, if_true, if_false, ↓reduceIte, Decidable.not_not, ne_eq, Int32.reduceLE, Int32.reduceLT, pq_nes, eq_self]
theorem ql_acc6 (hX : pq_X rf x) (hR : pq_R σ (x + 2) g n p) (hV : pq_V g n p N)  : f_L_account rf z x (6 : Int32) σ = some (g 7, σ) := by
  rw [f_L_account, qf_acc6 hX hR hV ]
  first | rfl | (simp only [rc_tr, rc_mz]; rfl)
theorem qf_acc7 (hX : pq_X rf x) (hR : pq_R σ (x + 2) g n p) (hV : pq_V g n p N)  : f_X8_account rf x (7 : Int32) σ = some (0, g 8, σ) := by
  have hK := pq_xk hX
  have h8 := pq_vn hV
  have h4 := pq_vp hV
  have hl7 : ¬ (7 : Int32) = 0 ∧ ¬ (7 : Int32) = 1 ∧ ¬ (7 : Int32) = 2 ∧ ¬ (7 : Int32) = 3 ∧ ¬ (7 : Int32) = 4 ∧ ¬ (7 : Int32) = 5 ∧ ¬ (7 : Int32) = 6 := by decide
  have hl8 : ¬ (8 : Int32) = 0 ∧ ¬ (8 : Int32) = 1 ∧ ¬ (8 : Int32) = 2 ∧ ¬ (8 : Int32) = 3 ∧ ¬ (8 : Int32) = 4 ∧ ¬ (8 : Int32) = 5 ∧ ¬ (8 : Int32) = 6 ∧ ¬ (8 : Int32) = 7 := by decide
  have hl9 : ¬ (9 : Int32) = 0 ∧ ¬ (9 : Int32) = 1 ∧ ¬ (9 : Int32) = 2 ∧ ¬ (9 : Int32) = 3 ∧ ¬ (9 : Int32) = 4 ∧ ¬ (9 : Int32) = 5 ∧ ¬ (9 : Int32) = 6 ∧ ¬ (9 : Int32) = 7 ∧ ¬ (9 : Int32) = 8 := by decide
  have hl10 : ¬ (10 : Int32) = 0 ∧ ¬ (10 : Int32) = 1 ∧ ¬ (10 : Int32) = 2 ∧ ¬ (10 : Int32) = 3 ∧ ¬ (10 : Int32) = 4 ∧ ¬ (10 : Int32) = 5 ∧ ¬ (10 : Int32) = 6 ∧ ¬ (10 : Int32) = 7 ∧ ¬ (10 : Int32) = 8 ∧ ¬ (10 : Int32) = 9 := by decide
  have hl11 : ¬ (11 : Int32) = 0 ∧ ¬ (11 : Int32) = 1 ∧ ¬ (11 : Int32) = 2 ∧ ¬ (11 : Int32) = 3 ∧ ¬ (11 : Int32) = 4 ∧ ¬ (11 : Int32) = 5 ∧ ¬ (11 : Int32) = 6 ∧ ¬ (11 : Int32) = 7 ∧ ¬ (11 : Int32) = 8 ∧ ¬ (11 : Int32) = 9 ∧ ¬ (11 : Int32) = 10 := by decide
  simp (disch := omega) only [f_X8_account, pq_bd, pq_ck, pq_bx, rc_lt, pq_i10, pq_i01, pq_x1 hX, pq_x2 hX, pq_x5 hX, pq_x6 hX, pq_x8 hX, pq_k0 hK, pq_k1 hK, pq_k3 hK, pq_k4 hK, pq_kp hK, pq_ks hK, pq_c0 hR, pq_c1 hR, pq_c2 hR, pq_c3 hR, pq_c4 hR, pq_c5 hR, pq_c6 hR, pq_c7 hR, pq_c8 hR, pq_c9 hR, pq_c10 hR, hl7, hl8, hl9, hl10, hl11, q_1_litresInBarrels hK hR hV, pb_fl, not_false_eq_true, not_true_eq_false, and_self, and_true, true_and, and_false, false_and, or_true, true_or, or_false, false_or, if_true, if_false, ↓reduceIte, Decidable.not_not, ne_eq, Int32.reduceLE, Int32.reduceLT, pq_nes, eq_self]
theorem ql_acc7 (hX : pq_X rf x) (hR : pq_R σ (x + 2) g n p) (hV : pq_V g n p N)  : f_L_account rf z x (7 : Int32) σ = some (g 8, σ) := by
  rw [f_L_account, qf_acc7 hX hR hV ]
  first | rfl | (simp only [rc_tr, rc_mz]; rfl)
theorem qf_acc8 (hX : pq_X rf x) (hR : pq_R σ (x + 2) g n p) (hV : pq_V g n p N)  : f_X8_account rf x (8 : Int32) σ = some (0, g 9, σ) := by
  have hK := pq_xk hX
  have h8 := pq_vn hV
  have h4 := pq_vp hV
  have hl7 : ¬ (7 : Int32) = 0 ∧ ¬ (7 : Int32) = 1 ∧ ¬ (7 : Int32) = 2 ∧ ¬ (7 : Int32) = 3 ∧ ¬ (7 : Int32) = 4 ∧ ¬ (7 : Int32) = 5 ∧ ¬ (7 : Int32) = 6 := by decide
  have hl8 : ¬ (8 : Int32) = 0 ∧ ¬ (8 : Int32) = 1 ∧ ¬ (8 : Int32) = 2 ∧ ¬ (8 : Int32) = 3 ∧ ¬ (8 : Int32) = 4 ∧ ¬ (8 : Int32) = 5 ∧ ¬ (8 : Int32) = 6 ∧ ¬ (8 : Int32) = 7 := by decide
  have hl9 : ¬ (9 : Int32) = 0 ∧ ¬ (9 : Int32) = 1 ∧ ¬ (9 : Int32) = 2 ∧ ¬ (9 : Int32) = 3 ∧ ¬ (9 : Int32) = 4 ∧ ¬ (9 : Int32) = 5 ∧ ¬ (9 : Int32) = 6 ∧ ¬ (9 : Int32) = 7 ∧ ¬ (9 : Int32) = 8 := by decide
  have hl10 : ¬ (10 : Int32) = 0 ∧ ¬ (10 : Int32) = 1 ∧ ¬ (10 : Int32) = 2 ∧ ¬ (10 : Int32) = 3 ∧ ¬ (10 : Int32) = 4 ∧ ¬ (10 : Int32) = 5 ∧ ¬ (10 : Int32) = 6 ∧ ¬ (10 : Int32) = 7 ∧ ¬ (10 : Int32) = 8 ∧ ¬ (10 : Int32) = 9 := by decide
  have hl11 : ¬ (11 : Int32) = 0 ∧ ¬ (11 : Int32) = 1 ∧ ¬ (11 : Int32) = 2 ∧ ¬ (11 : Int32) = 3 ∧ ¬ (11 : Int32) = 4 ∧ ¬ (11 : Int32) = 5 ∧ ¬ (11 : Int32) = 6 ∧ ¬ (11 : Int32) = 7 ∧ ¬ (11 : Int32) = 8 ∧ ¬ (11 : Int32) = 9 ∧ ¬ (11 : Int32) = 10 := by decide
  simp (disch := omega) only [f_X8_account, pq_bd, pq_ck, pq_bx, rc_lt, pq_i10, pq_i01, pq_x1 hX, pq_x2 hX, pq_x5 hX, pq_x6 hX, pq_x8 hX, pq_k0 hK, pq_k1 hK, pq_k3 hK, pq_k4 hK, pq_kp hK, pq_ks hK, pq_c0 hR, pq_c1 hR, pq_c2 hR, pq_c3 hR, pq_c4 hR, pq_c5 hR, pq_c6 hR, pq_c7 hR, pq_c8 hR, pq_c9 hR, pq_c10 hR, hl7, hl8, hl9, hl10, hl11, q_1_litresInBarrels hK hR hV, pb_fl, not_false_eq_true, not_true_eq_false, and_self, and_true, true_and, and_false, false_and, or_true, true_or, or_false, false_or, if_true, if_false, ↓reduceIte, Decidable.not_not, ne_eq, Int32.reduceLE, Int32.reduceLT, pq_nes, eq_self]
theorem ql_acc8 (hX : pq_X rf x) (hR : pq_R σ (x + 2) g n p) (hV : pq_V g n p N)  : f_L_account rf z x (8 : Int32) σ = some (g 9, σ) := by
  rw [f_L_account, qf_acc8 hX hR hV ]
  first | rfl | (simp only [rc_tr, rc_mz]; rfl)
theorem qf_acc9 (hX : pq_X rf x) (hR : pq_R σ (x + 2) g n p) (hV : pq_V g n p N)  : f_X8_account rf x (9 : Int32) σ = some (0, g 10, σ) := by
  have hK := pq_xk hX
  have h8 := pq_vn hV
  have h4 := pq_vp hV
  have hl7 : ¬ (7 : Int32) = 0 ∧ ¬ (7 : Int32) = 1 ∧ ¬ (7 : Int32) = 2 ∧ ¬ (7 : Int32) = 3 ∧ ¬ (7 : Int32) = 4 ∧ ¬ (7 : Int32) = 5 ∧ ¬ (7 : Int32) = 6 := by decide
  have hl8 : ¬ (8 : Int32) = 0 ∧ ¬ (8 : Int32) = 1 ∧ ¬ (8 : Int32) = 2 ∧ ¬ (8 : Int32) = 3 ∧ ¬ (8 : Int32) = 4 ∧ ¬ (8 : Int32) = 5 ∧ ¬ (8 : Int32) = 6 ∧ ¬ (8 : Int32) = 7 := by decide
  have hl9 : ¬ (9 : Int32) = 0 ∧ ¬ (9 : Int32) = 1 ∧ ¬ (9 : Int32) = 2 ∧ ¬ (9 : Int32) = 3 ∧ ¬ (9 : Int32) = 4 ∧ ¬ (9 : Int32) = 5 ∧ ¬ (9 : Int32) = 6 ∧ ¬ (9 : Int32) = 7 ∧ ¬ (9 : Int32) = 8 := by decide
  have hl10 : ¬ (10 : Int32) = 0 ∧ ¬ (10 : Int32) = 1 ∧ ¬ (10 : Int32) = 2 ∧ ¬ (10 : Int32) = 3 ∧ ¬ (10 : Int32) = 4 ∧ ¬ (10 : Int32) = 5 ∧ ¬ (10 : Int32) = 6 ∧ ¬ (10 : Int32) = 7 ∧ ¬ (10 : Int32) = 8 ∧ ¬ (10 : Int32) = 9 := by decide
  have hl11 : ¬ (11 : Int32) = 0 ∧ ¬ (11 : Int32) = 1 ∧ ¬ (11 : Int32) = 2 ∧ ¬ (11 : Int32) = 3 ∧ ¬ (11 : Int32) = 4 ∧ ¬ (11 : Int32) = 5 ∧ ¬ (11 : Int32) = 6 ∧ ¬ (11 : Int32) = 7 ∧ ¬ (11 : Int32) = 8 ∧ ¬ (11 : Int32) = 9 ∧ ¬ (11 : Int32) = 10 := by decide
  simp (disch := omega) only [f_X8_account, pq_bd, pq_ck, pq_bx, rc_lt, pq_i10, pq_i01, pq_x1 hX, pq_x2 hX, pq_x5 hX, pq_x6 hX, pq_x8 hX, pq_k0 hK, pq_k1 hK, pq_k3 hK, pq_k4 hK, pq_kp hK, pq_ks hK, pq_c0 hR, pq_c1 hR, pq_c2 hR, pq_c3 hR, pq_c4 hR, pq_c5 hR, pq_c6 hR, pq_c7 hR, pq_c8 hR, pq_c9 hR, pq_c10 hR, hl7, hl8, hl9, hl10, hl11, q_1_litresInBarrels hK hR hV, pb_fl, not_false_eq_true, not_true_eq_false, and_self, and_true, true_and, and_false, false_and, or_true, true_or, or_false, false_or, if_true, if_false, ↓reduceIte, Decidable.not_not, ne_eq, Int32.reduceLE, Int32.reduceLT, pq_nes, eq_self]
theorem ql_acc9 (hX : pq_X rf x) (hR : pq_R σ (x + 2) g n p) (hV : pq_V g n p N)  : f_L_account rf z x (9 : Int32) σ = some (g 10, σ) := by
  rw [f_L_account, qf_acc9 hX hR hV ]
  first | rfl | (simp only [rc_tr, rc_mz]; rfl)
theorem qf_acc10 (hX : pq_X rf x) (hR : pq_R σ (x + 2) g n p) (hV : pq_V g n p N)  : f_X8_account rf x (10 : Int32) σ = some (0, σ (x + 57) 2, σ) := by
  have hK := pq_xk hX
  have h8 := pq_vn hV
  have h4 := pq_vp hV
  have hl7 : ¬ (7 : Int32) = 0 ∧ ¬ (7 : Int32) = 1 ∧ ¬ (7 : Int32) = 2 ∧ ¬ (7 : Int32) = 3 ∧ ¬ (7 : Int32) = 4 ∧ ¬ (7 : Int32) = 5 ∧ ¬ (7 : Int32) = 6 := by decide
  have hl8 : ¬ (8 : Int32) = 0 ∧ ¬ (8 : Int32) = 1 ∧ ¬ (8 : Int32) = 2 ∧ ¬ (8 : Int32) = 3 ∧ ¬ (8 : Int32) = 4 ∧ ¬ (8 : Int32) = 5 ∧ ¬ (8 : Int32) = 6 ∧ ¬ (8 : Int32) = 7 := by decide
  have hl9 : ¬ (9 : Int32) = 0 ∧ ¬ (9 : Int32) = 1 ∧ ¬ (9 : Int32) = 2 ∧ ¬ (9 : Int32) = 3 ∧ ¬ (9 : Int32) = 4 ∧ ¬ (9 : Int32) = 5 ∧ ¬ (9 : Int32) = 6 ∧ ¬ (9 : Int32) = 7 ∧ ¬ (9 : Int32) = 8 := by decide
  have hl10 : ¬ (10 : Int32) = 0 ∧ ¬ (10 : Int32) = 1 ∧ ¬ (10 : Int32) = 2 ∧ ¬ (10 : Int32) = 3 ∧ ¬ (10 : Int32) = 4 ∧ ¬ (10 : Int32) = 5 ∧ ¬ (10 : Int32) = 6 ∧ ¬ (10 : Int32) = 7 ∧ ¬ (10 : Int32) = 8 ∧ ¬ (10 : Int32) = 9 := by decide
  have hl11 : ¬ (11 : Int32) = 0 ∧ ¬ (11 : Int32) = 1 ∧ ¬ (11 : Int32) = 2 ∧ ¬ (11 : Int32) = 3 ∧ ¬ (11 : Int32) = 4 ∧ ¬ (11 : Int32) = 5 ∧ ¬ (11 : Int32) = 6 ∧ ¬ (11 : Int32) = 7 ∧ ¬ (11 : Int32) = 8 ∧ ¬ (11 : Int32) = 9 ∧ ¬ (11 : Int32) = 10 := by decide
  simp (disch := omega) only [f_X8_account, pq_bd, pq_ck, pq_bx, rc_lt, pq_i10, pq_i01, pq_x1 hX, pq_x2 hX, pq_x5 hX, pq_x6 hX, pq_x8 hX, pq_k0 hK, pq_k1 hK, pq_k3 hK, pq_k4 hK, pq_kp hK, pq_ks hK, pq_c0 hR, pq_c1 hR, pq_c2 hR, pq_c3 hR, pq_c4 hR, pq_c5 hR, pq_c6 hR, pq_c7 hR, pq_c8 hR, pq_c9 hR, pq_c10 hR, hl7, hl8, hl9, hl10, hl11, q_1_litresInBarrels hK hR hV, pb_fl, not_false_eq_true, not_true_eq_false, and_self, and_true, true_and, and_false, false_and, or_true, true_or, or_false, false_or, if_true, if_false, ↓reduceIte, Decidable.not_not, ne_eq, Int32.reduceLE, Int32.reduceLT, pq_nes, eq_self]
theorem ql_acc10 (hX : pq_X rf x) (hR : pq_R σ (x + 2) g n p) (hV : pq_V g n p N)  : f_L_account rf z x (10 : Int32) σ = some (σ (x + 57) 2, σ) := by
  rw [f_L_account, qf_acc10 hX hR hV ]
  first | rfl | (simp only [rc_tr, rc_mz]; rfl)
theorem qf_acc11 (hX : pq_X rf x) (hR : pq_R σ (x + 2) g n p) (hV : pq_V g n p N)  : f_X8_account rf x (11 : Int32) σ = some (0, σ (x + 302) 1, σ) := by
  have hK := pq_xk hX
  have h8 := pq_vn hV
  have h4 := pq_vp hV
  have hl7 : ¬ (7 : Int32) = 0 ∧ ¬ (7 : Int32) = 1 ∧ ¬ (7 : Int32) = 2 ∧ ¬ (7 : Int32) = 3 ∧ ¬ (7 : Int32) = 4 ∧ ¬ (7 : Int32) = 5 ∧ ¬ (7 : Int32) = 6 := by decide
  have hl8 : ¬ (8 : Int32) = 0 ∧ ¬ (8 : Int32) = 1 ∧ ¬ (8 : Int32) = 2 ∧ ¬ (8 : Int32) = 3 ∧ ¬ (8 : Int32) = 4 ∧ ¬ (8 : Int32) = 5 ∧ ¬ (8 : Int32) = 6 ∧ ¬ (8 : Int32) = 7 := by decide
  have hl9 : ¬ (9 : Int32) = 0 ∧ ¬ (9 : Int32) = 1 ∧ ¬ (9 : Int32) = 2 ∧ ¬ (9 : Int32) = 3 ∧ ¬ (9 : Int32) = 4 ∧ ¬ (9 : Int32) = 5 ∧ ¬ (9 : Int32) = 6 ∧ ¬ (9 : Int32) = 7 ∧ ¬ (9 : Int32) = 8 := by decide
  have hl10 : ¬ (10 : Int32) = 0 ∧ ¬ (10 : Int32) = 1 ∧ ¬ (10 : Int32) = 2 ∧ ¬ (10 : Int32) = 3 ∧ ¬ (10 : Int32) = 4 ∧ ¬ (10 : Int32) = 5 ∧ ¬ (10 : Int32) = 6 ∧ ¬ (10 : Int32) = 7 ∧ ¬ (10 : Int32) = 8 ∧ ¬ (10 : Int32) = 9 := by decide
  have hl11 : ¬ (11 : Int32) = 0 ∧ ¬ (11 : Int32) = 1 ∧ ¬ (11 : Int32) = 2 ∧ ¬ (11 : Int32) = 3 ∧ ¬ (11 : Int32) = 4 ∧ ¬ (11 : Int32) = 5 ∧ ¬ (11 : Int32) = 6 ∧ ¬ (11 : Int32) = 7 ∧ ¬ (11 : Int32) = 8 ∧ ¬ (11 : Int32) = 9 ∧ ¬ (11 : Int32) = 10 := by decide
  simp (disch := omega) only [f_X8_account, pq_bd, pq_ck, pq_bx, rc_lt, pq_i10, pq_i01, pq_x1 hX, pq_x2 hX, pq_x5 hX, pq_x6 hX, pq_x8 hX, pq_k0 hK, pq_k1 hK, pq_k3 hK, pq_k4 hK, pq_kp hK, pq_ks hK, pq_c0 hR, pq_c1 hR, pq_c2 hR, pq_c3 hR, pq_c4 hR, pq_c5 hR, pq_c6 hR, pq_c7 hR, pq_c8 hR, pq_c9 hR, pq_c10 hR, hl7, hl8, hl9, hl10, hl11, q_1_litresInBarrels hK hR hV, pb_fl, not_false_eq_true, not_true_eq_false, and_self, and_true, true_and, and_false, false_and, or_true, true_or, or_false, false_or, if_true, if_false, ↓reduceIte, Decidable.not_not, ne_eq, Int32.reduceLE, Int32.reduceLT, pq_nes, eq_self]
theorem ql_acc11 (hX : pq_X rf x) (hR : pq_R σ (x + 2) g n p) (hV : pq_V g n p N)  : f_L_account rf z x (11 : Int32) σ = some (σ (x + 302) 1, σ) := by
  rw [f_L_account, qf_acc11 hX hR hV ]
  first | rfl | (simp only [rc_tr, rc_mz]; rfl)
theorem qf_roof0 (hX : pq_X rf x) (hR : pq_R σ (x + 2) g n p) (hV : pq_V g n p N) (hj : j < 4) : f_X8_roofOf rf x (Int32.ofNat j) (0 : Int32) σ = some (0, g (11 + j), σ) := by
  have hK := pq_xk hX
  have h8 := pq_vn hV
  have h4 := pq_vp hV
  have h1 := pb_4 hj
  simp (disch := omega) only [f_X8_roofOf, pq_bd, pq_ck, pq_bx, rc_lt, pq_i10, pq_i01, pq_x1 hX, pq_x2 hX, pq_x5 hX, pq_x6 hX, pq_x8 hX, pq_k0 hK, pq_k1 hK, pq_k3 hK, pq_k4 hK, pq_kp hK, pq_ks hK, q8_out, h1, pq_in, pq_cl, pq_cm hR, not_false_eq_true, not_true_eq_false, and_self, and_true, true_and, and_false, false_and, or_true, true_or, or_false, false_or, if_true, if_false, ↓reduceIte, Decidable.not_not, ne_eq, Int32.reduceLE, Int32.reduceLT, pq_nes, eq_self]
theorem ql_roof0 (hX : pq_X rf x) (hR : pq_R σ (x + 2) g n p) (hV : pq_V g n p N) (hj : j < 4) : f_L_roofOf rf z x (Int32.ofNat j) (0 : Int32) σ = some (g (11 + j), σ) := by
  rw [f_L_roofOf, qf_roof0 hX hR hV hj]
  first | rfl | (simp only [rc_tr, rc_mz]; rfl)
theorem qf_roof1 (hX : pq_X rf x) (hR : pq_R σ (x + 2) g n p) (hV : pq_V g n p N) (hj : j < 4) : f_X8_roofOf rf x (Int32.ofNat j) (1 : Int32) σ = some (0, pq_fd (fun b a => if g (15 + 6 * b) = Int32.ofNat j then a + 1 else a) 0 n 0, σ) := by
  have hK := pq_xk hX
  have h8 := pq_vn hV
  have h4 := pq_vp hV
  have h1 := pb_4 hj
  simp (disch := omega) only [f_X8_roofOf, pq_bd, pq_ck, pq_bx, rc_lt, pq_i10, pq_i01, pq_x1 hX, pq_x2 hX, pq_x5 hX, pq_x6 hX, pq_x8 hX, pq_k0 hK, pq_k1 hK, pq_k3 hK, pq_k4 hK, pq_kp hK, pq_ks hK, q8_out, h1, q_1_barrelsUnder hK hR hV, not_false_eq_true, not_true_eq_false, and_self, and_true, true_and, and_false, false_and, or_true, true_or, or_false, false_or, if_true, if_false, ↓reduceIte, Decidable.not_not, ne_eq, Int32.reduceLE, Int32.reduceLT, pq_nes, eq_self]
theorem ql_roof1 (hX : pq_X rf x) (hR : pq_R σ (x + 2) g n p) (hV : pq_V g n p N) (hj : j < 4) : f_L_roofOf rf z x (Int32.ofNat j) (1 : Int32) σ = some (pq_fd (fun b a => if g (15 + 6 * b) = Int32.ofNat j then a + 1 else a) 0 n 0, σ) := by
  rw [f_L_roofOf, qf_roof1 hX hR hV hj]
  first | rfl | (simp only [rc_tr, rc_mz]; rfl)
theorem qf_roof2 (hX : pq_X rf x) (hR : pq_R σ (x + 2) g n p) (hV : pq_V g n p N) (hj : j < 4) : f_X8_roofOf rf x (Int32.ofNat j) (2 : Int32) σ = some (0, pq_fd (fun b a => if g (15 + 6 * b) = Int32.ofNat j ∧ g (16 + 6 * b) = 0 then a + 1 else a) 0 n 0, σ) := by
  have hK := pq_xk hX
  have h8 := pq_vn hV
  have h4 := pq_vp hV
  have h1 := pb_4 hj
  simp (disch := omega) only [f_X8_roofOf, pq_bd, pq_ck, pq_bx, rc_lt, pq_i10, pq_i01, pq_x1 hX, pq_x2 hX, pq_x5 hX, pq_x6 hX, pq_x8 hX, pq_k0 hK, pq_k1 hK, pq_k3 hK, pq_k4 hK, pq_kp hK, pq_ks hK, q8_out, h1, q_1_emptyUnder hK hR hV, not_false_eq_true, not_true_eq_false, and_self, and_true, true_and, and_false, false_and, or_true, true_or, or_false, false_or, if_true, if_false, ↓reduceIte, Decidable.not_not, ne_eq, Int32.reduceLE, Int32.reduceLT, pq_nes, eq_self]
theorem ql_roof2 (hX : pq_X rf x) (hR : pq_R σ (x + 2) g n p) (hV : pq_V g n p N) (hj : j < 4) : f_L_roofOf rf z x (Int32.ofNat j) (2 : Int32) σ = some (pq_fd (fun b a => if g (15 + 6 * b) = Int32.ofNat j ∧ g (16 + 6 * b) = 0 then a + 1 else a) 0 n 0, σ) := by
  rw [f_L_roofOf, qf_roof2 hX hR hV hj]
  first | rfl | (simp only [rc_tr, rc_mz]; rfl)
theorem qf_roof3 (hX : pq_X rf x) (hR : pq_R σ (x + 2) g n p) (hV : pq_V g n p N) (hj : j < 4) : f_X8_roofOf rf x (Int32.ofNat j) (3 : Int32) σ = some (0, pq_fd (fun b a => if g (15 + 6 * b) = Int32.ofNat j then a + g (16 + 6 * b) else a) 0 n 0, σ) := by
  have hK := pq_xk hX
  have h8 := pq_vn hV
  have h4 := pq_vp hV
  have h1 := pb_4 hj
  simp (disch := omega) only [f_X8_roofOf, pq_bd, pq_ck, pq_bx, rc_lt, pq_i10, pq_i01, pq_x1 hX, pq_x2 hX, pq_x5 hX, pq_x6 hX, pq_x8 hX, pq_k0 hK, pq_k1 hK, pq_k3 hK, pq_k4 hK, pq_kp hK, pq_ks hK, q8_out, h1, q_1_litresUnder hK hR hV, not_false_eq_true, not_true_eq_false, and_self, and_true, true_and, and_false, false_and, or_true, true_or, or_false, false_or, if_true, if_false, ↓reduceIte, Decidable.not_not, ne_eq, Int32.reduceLE, Int32.reduceLT, pq_nes, eq_self]
theorem ql_roof3 (hX : pq_X rf x) (hR : pq_R σ (x + 2) g n p) (hV : pq_V g n p N) (hj : j < 4) : f_L_roofOf rf z x (Int32.ofNat j) (3 : Int32) σ = some (pq_fd (fun b a => if g (15 + 6 * b) = Int32.ofNat j then a + g (16 + 6 * b) else a) 0 n 0, σ) := by
  rw [f_L_roofOf, qf_roof3 hX hR hV hj]
  first | rfl | (simp only [rc_tr, rc_mz]; rfl)
theorem qf_bar0 (hX : pq_X rf x) (hR : pq_R σ (x + 2) g n p) (hV : pq_V g n p N) (hb : b < n) : f_X8_barrelOf rf x (Int32.ofNat b) (0 : Int32) σ = some (0, g (15 + 6 * b), σ) := by
  have hK := pq_xk hX
  have h8 := pq_vn hV
  have h4 := pq_vp hV
  have h1 := pb_u hV hb
  simp (disch := omega) only [f_X8_barrelOf, pq_bd, pq_ck, pq_bx, rc_lt, pq_i10, pq_i01, pq_x1 hX, pq_x2 hX, pq_x5 hX, pq_x6 hX, pq_x8 hX, pq_k0 hK, pq_k1 hK, pq_k3 hK, pq_k4 hK, pq_kp hK, pq_ks hK, q8_ex hX hR hV hb h1, pq_b0 hR, not_false_eq_true, not_true_eq_false, and_self, and_true, true_and, and_false, false_and, or_true, true_or, or_false, false_or, if_true, if_false, ↓reduceIte, Decidable.not_not, ne_eq, Int32.reduceLE, Int32.reduceLT, pq_nes, eq_self]
theorem ql_bar0 (hX : pq_X rf x) (hR : pq_R σ (x + 2) g n p) (hV : pq_V g n p N) (hb : b < n) : f_L_barrelOf rf z x (Int32.ofNat b) (0 : Int32) σ = some (g (15 + 6 * b), σ) := by
  rw [f_L_barrelOf, qf_bar0 hX hR hV hb]
  first | rfl | (simp only [rc_tr, rc_mz]; rfl)
theorem qf_bar1 (hX : pq_X rf x) (hR : pq_R σ (x + 2) g n p) (hV : pq_V g n p N) (hb : b < n) : f_X8_barrelOf rf x (Int32.ofNat b) (1 : Int32) σ = some (0, g (16 + 6 * b), σ) := by
  have hK := pq_xk hX
  have h8 := pq_vn hV
  have h4 := pq_vp hV
  have h1 := pb_u hV hb
  simp (disch := omega) only [f_X8_barrelOf, pq_bd, pq_ck, pq_bx, rc_lt, pq_i10, pq_i01, pq_x1 hX, pq_x2 hX, pq_x5 hX, pq_x6 hX, pq_x8 hX, pq_k0 hK, pq_k1 hK, pq_k3 hK, pq_k4 hK, pq_kp hK, pq_ks hK, q8_ex hX hR hV hb h1, pq_b1 hR, not_false_eq_true, not_true_eq_false, and_self, and_true, true_and, and_false, false_and, or_true, true_or, or_false, false_or, if_true, if_false, ↓reduceIte, Decidable.not_not, ne_eq, Int32.reduceLE, Int32.reduceLT, pq_nes, eq_self]
theorem ql_bar1 (hX : pq_X rf x) (hR : pq_R σ (x + 2) g n p) (hV : pq_V g n p N) (hb : b < n) : f_L_barrelOf rf z x (Int32.ofNat b) (1 : Int32) σ = some (g (16 + 6 * b), σ) := by
  rw [f_L_barrelOf, qf_bar1 hX hR hV hb]
  first | rfl | (simp only [rc_tr, rc_mz]; rfl)
theorem qf_bar2 (hX : pq_X rf x) (hR : pq_R σ (x + 2) g n p) (hV : pq_V g n p N) (hb : b < n) : f_X8_barrelOf rf x (Int32.ofNat b) (2 : Int32) σ = some (0, g (17 + 6 * b), σ) := by
  have hK := pq_xk hX
  have h8 := pq_vn hV
  have h4 := pq_vp hV
  have h1 := pb_u hV hb
  simp (disch := omega) only [f_X8_barrelOf, pq_bd, pq_ck, pq_bx, rc_lt, pq_i10, pq_i01, pq_x1 hX, pq_x2 hX, pq_x5 hX, pq_x6 hX, pq_x8 hX, pq_k0 hK, pq_k1 hK, pq_k3 hK, pq_k4 hK, pq_kp hK, pq_ks hK, q8_ex hX hR hV hb h1, pq_b2 hR, not_false_eq_true, not_true_eq_false, and_self, and_true, true_and, and_false, false_and, or_true, true_or, or_false, false_or, if_true, if_false, ↓reduceIte, Decidable.not_not, ne_eq, Int32.reduceLE, Int32.reduceLT, pq_nes, eq_self]
theorem ql_bar2 (hX : pq_X rf x) (hR : pq_R σ (x + 2) g n p) (hV : pq_V g n p N) (hb : b < n) : f_L_barrelOf rf z x (Int32.ofNat b) (2 : Int32) σ = some (g (17 + 6 * b), σ) := by
  rw [f_L_barrelOf, qf_bar2 hX hR hV hb]
  first | rfl | (simp only [rc_tr, rc_mz]; rfl)
theorem qf_bar3 (hX : pq_X rf x) (hR : pq_R σ (x + 2) g n p) (hV : pq_V g n p N) (hb : b < n) : f_X8_barrelOf rf x (Int32.ofNat b) (3 : Int32) σ = some (0, g (18 + 6 * b), σ) := by
  have hK := pq_xk hX
  have h8 := pq_vn hV
  have h4 := pq_vp hV
  have h1 := pb_u hV hb
  simp (disch := omega) only [f_X8_barrelOf, pq_bd, pq_ck, pq_bx, rc_lt, pq_i10, pq_i01, pq_x1 hX, pq_x2 hX, pq_x5 hX, pq_x6 hX, pq_x8 hX, pq_k0 hK, pq_k1 hK, pq_k3 hK, pq_k4 hK, pq_kp hK, pq_ks hK, q8_ex hX hR hV hb h1, pq_b3 hR, not_false_eq_true, not_true_eq_false, and_self, and_true, true_and, and_false, false_and, or_true, true_or, or_false, false_or, if_true, if_false, ↓reduceIte, Decidable.not_not, ne_eq, Int32.reduceLE, Int32.reduceLT, pq_nes, eq_self]
theorem ql_bar3 (hX : pq_X rf x) (hR : pq_R σ (x + 2) g n p) (hV : pq_V g n p N) (hb : b < n) : f_L_barrelOf rf z x (Int32.ofNat b) (3 : Int32) σ = some (g (18 + 6 * b), σ) := by
  rw [f_L_barrelOf, qf_bar3 hX hR hV hb]
  first | rfl | (simp only [rc_tr, rc_mz]; rfl)
theorem qf_bar4 (hX : pq_X rf x) (hR : pq_R σ (x + 2) g n p) (hV : pq_V g n p N) (hb : b < n) : f_X8_barrelOf rf x (Int32.ofNat b) (4 : Int32) σ = some (0, g (19 + 6 * b), σ) := by
  have hK := pq_xk hX
  have h8 := pq_vn hV
  have h4 := pq_vp hV
  have h1 := pb_u hV hb
  simp (disch := omega) only [f_X8_barrelOf, pq_bd, pq_ck, pq_bx, rc_lt, pq_i10, pq_i01, pq_x1 hX, pq_x2 hX, pq_x5 hX, pq_x6 hX, pq_x8 hX, pq_k0 hK, pq_k1 hK, pq_k3 hK, pq_k4 hK, pq_kp hK, pq_ks hK, q8_ex hX hR hV hb h1, pq_b4 hR, not_false_eq_true, not_true_eq_false, and_self, and_true, true_and, and_false, false_and, or_true, true_or, or_false, false_or, if_true, if_false, ↓reduceIte, Decidable.not_not, ne_eq, Int32.reduceLE, Int32.reduceLT, pq_nes, eq_self]
theorem ql_bar4 (hX : pq_X rf x) (hR : pq_R σ (x + 2) g n p) (hV : pq_V g n p N) (hb : b < n) : f_L_barrelOf rf z x (Int32.ofNat b) (4 : Int32) σ = some (g (19 + 6 * b), σ) := by
  rw [f_L_barrelOf, qf_bar4 hX hR hV hb]
  first | rfl | (simp only [rc_tr, rc_mz]; rfl)
theorem qf_bar5 (hX : pq_X rf x) (hR : pq_R σ (x + 2) g n p) (hV : pq_V g n p N) (hb : b < n) : f_X8_barrelOf rf x (Int32.ofNat b) (5 : Int32) σ = some (0, pq_A g b, σ) := by
  have hK := pq_xk hX
  have h8 := pq_vn hV
  have h4 := pq_vp hV
  have h1 := pb_u hV hb
  simp (disch := omega) only [f_X8_barrelOf, pq_bd, pq_ck, pq_bx, rc_lt, pq_i10, pq_i01, pq_x1 hX, pq_x2 hX, pq_x5 hX, pq_x6 hX, pq_x8 hX, pq_k0 hK, pq_k1 hK, pq_k3 hK, pq_k4 hK, pq_kp hK, pq_ks hK, q8_ex hX hR hV hb h1, q1_age hR, not_false_eq_true, not_true_eq_false, and_self, and_true, true_and, and_false, false_and, or_true, true_or, or_false, false_or, if_true, if_false, ↓reduceIte, Decidable.not_not, ne_eq, Int32.reduceLE, Int32.reduceLT, pq_nes, eq_self]
theorem ql_bar5 (hX : pq_X rf x) (hR : pq_R σ (x + 2) g n p) (hV : pq_V g n p N) (hb : b < n) : f_L_barrelOf rf z x (Int32.ofNat b) (5 : Int32) σ = some (pq_A g b, σ) := by
  rw [f_L_barrelOf, qf_bar5 hX hR hV hb]
  first | rfl | (simp only [rc_tr, rc_mz]; rfl)
theorem qf_bar6 (hX : pq_X rf x) (hR : pq_R σ (x + 2) g n p) (hV : pq_V g n p N) (hb : b < n) : f_X8_barrelOf rf x (Int32.ofNat b) (6 : Int32) σ = some (0, pq_P g b, σ) := by
  have hK := pq_xk hX
  have h8 := pq_vn hV
  have h4 := pq_vp hV
  have h1 := pb_u hV hb
  simp (disch := omega) only [f_X8_barrelOf, pq_bd, pq_ck, pq_bx, rc_lt, pq_i10, pq_i01, pq_x1 hX, pq_x2 hX, pq_x5 hX, pq_x6 hX, pq_x8 hX, pq_k0 hK, pq_k1 hK, pq_k3 hK, pq_k4 hK, pq_kp hK, pq_ks hK, q8_ex hX hR hV hb h1, q1_part hR hV, not_false_eq_true, not_true_eq_false, and_self, and_true, true_and, and_false, false_and, or_true, true_or, or_false, false_or, if_true, if_false, ↓reduceIte, Decidable.not_not, ne_eq, Int32.reduceLE, Int32.reduceLT, pq_nes, eq_self]
theorem ql_bar6 (hX : pq_X rf x) (hR : pq_R σ (x + 2) g n p) (hV : pq_V g n p N) (hb : b < n) : f_L_barrelOf rf z x (Int32.ofNat b) (6 : Int32) σ = some (pq_P g b, σ) := by
  rw [f_L_barrelOf, qf_bar6 hX hR hV hb]
  first | rfl | (simp only [rc_tr, rc_mz]; rfl)
theorem qf_note (hX : pq_X rf x) (hR : pq_R σ (x + 2) g n p) (hV : pq_V g n p N) (hb : b < n) (h2 : g (16 + 6 * b) ≠ 0) : f_X8_note rf x (Int32.ofNat b) σ = some (0, pq_N g b 0, σ) := by
  have hK := pq_xk hX
  have h8 := pq_vn hV
  have h4 := pq_vp hV
  have h1 := pb_u hV hb
  have hfi : f_X8_filled rf x (Int32.ofNat b) σ = some (0, x + 2 + 7 + b, σ) := by rw [q8_fi hX hR hV hb h1, if_neg h2]
  simp (disch := omega) only [f_X8_note, pq_bd, pq_ck, pq_bx, rc_lt, pq_i10, pq_i01, pq_x1 hX, pq_x2 hX, pq_x5 hX, pq_x6 hX, pq_x8 hX, pq_k0 hK, pq_k1 hK, pq_k3 hK, pq_k4 hK, pq_kp hK, pq_ks hK, hfi, q1_note hR hV hb, not_false_eq_true, not_true_eq_false, and_self, and_true, true_and, and_false, false_and, or_true, true_or, or_false, false_or, if_true, if_false, ↓reduceIte, Decidable.not_not, ne_eq, Int32.reduceLE, Int32.reduceLT, pq_nes, eq_self]
theorem ql_note (hX : pq_X rf x) (hR : pq_R σ (x + 2) g n p) (hV : pq_V g n p N) (hb : b < n) (h2 : g (16 + 6 * b) ≠ 0) : f_L_note rf z x (Int32.ofNat b) σ = some (pq_N g b 0, σ) := by
  rw [f_L_note, qf_note hX hR hV hb h2]
  first | rfl | (simp only [rc_tr, rc_mz]; rfl)
theorem qf_noteE (hX : pq_X rf x) (hR : pq_R σ (x + 2) g n p) (hV : pq_V g n p N) (hb : b < n) (h2 : g (16 + 6 * b) = 0) : f_X8_note rf x (Int32.ofNat b) σ = some (4, 0, σ) := by
  have hK := pq_xk hX
  have h8 := pq_vn hV
  have h4 := pq_vp hV
  have h1 := pb_u hV hb
  simp (disch := omega) only [f_X8_note, pq_bd, pq_ck, pq_bx, rc_lt, pq_i10, pq_i01, pq_x1 hX, pq_x2 hX, pq_x5 hX, pq_x6 hX, pq_x8 hX, pq_k0 hK, pq_k1 hK, pq_k3 hK, pq_k4 hK, pq_kp hK, pq_ks hK, q8_fi hX hR hV hb h1, h2, pq_bxk (show (2 : Nat) ≠ 0 by decide), pq_bxk (show (4 : Nat) ≠ 0 by decide), not_false_eq_true, not_true_eq_false, and_self, and_true, true_and, and_false, false_and, or_true, true_or, or_false, false_or, if_true, if_false, ↓reduceIte, Decidable.not_not, ne_eq, Int32.reduceLE, Int32.reduceLT, pq_nes, eq_self]
theorem ql_noteE (hX : pq_X rf x) (hR : pq_R σ (x + 2) g n p) (hV : pq_V g n p N) (hb : b < n) (h2 : g (16 + 6 * b) = 0) : f_L_note rf z x (Int32.ofNat b) σ = some (-75, σ) := by
  rw [f_L_note, qf_noteE hX hR hV hb h2]
  first | rfl | (simp only [rc_tr, rc_mz]; rfl)
theorem qf_noteO (hX : pq_X rf x) (hR : pq_R σ (x + 2) g n p) (hV : pq_V g n p N)  : f_X8_note rf x (Int32.ofNat n) σ = some (2, 0, σ) := by
  have hK := pq_xk hX
  have h8 := pq_vn hV
  have h4 := pq_vp hV
  have h1 := pb_o hV
  simp (disch := omega) only [f_X8_note, pq_bd, pq_ck, pq_bx, rc_lt, pq_i10, pq_i01, pq_x1 hX, pq_x2 hX, pq_x5 hX, pq_x6 hX, pq_x8 hX, pq_k0 hK, pq_k1 hK, pq_k3 hK, pq_k4 hK, pq_kp hK, pq_ks hK, f_X8_filled, q8_ex0 hX hR h1, pq_bxk (show (2 : Nat) ≠ 0 by decide), pq_bxk (show (4 : Nat) ≠ 0 by decide), not_false_eq_true, not_true_eq_false, and_self, and_true, true_and, and_false, false_and, or_true, true_or, or_false, false_or, if_true, if_false, ↓reduceIte, Decidable.not_not, ne_eq, Int32.reduceLE, Int32.reduceLT, pq_nes, eq_self]
theorem ql_noteO (hX : pq_X rf x) (hR : pq_R σ (x + 2) g n p) (hV : pq_V g n p N)  : f_L_note rf z x (Int32.ofNat n) σ = some (-77, σ) := by
  rw [f_L_note, qf_noteO hX hR hV ]
  first | rfl | (simp only [rc_tr, rc_mz]; rfl)
theorem qf_noteA (hX : pq_X rf x) (hR : pq_R σ (x + 2) g n p) (hV : pq_V g n p N) (hN : N ≤ 90000) (hb : b < n) (h2 : g (16 + 6 * b) ≠ 0) : f_X8_noteAgain rf x (Int32.ofNat b) σ = some (0, pq_N g b 0, σ) := by
  have hK := pq_xk hX
  have h8 := pq_vn hV
  have h4 := pq_vp hV
  have h1 := pb_u hV hb
  have hfi : f_X8_filled rf x (Int32.ofNat b) σ = some (0, x + 2 + 7 + b, σ) := by rw [q8_fi hX hR hV hb h1, if_neg h2]
  have hb8 : b < 8 := by omega
  obtain ⟨Hh, L, T, g1, g2, g3, e1, e2, e3⟩ := pq_bN hV hb
  obtain ⟨A, hA, e4⟩ := pq_aN hV hb hN
  have ha : pq_A g b = Int32.ofNat A := by rw [pq_A, pq_age, if_neg h2, e4]
  have hv : pq_N g b 0 = Int32.ofNat (if T + A / 2 ≤ 9 then T + A / 2 else 9) * (100 - pq_P g b) / 100 := by
    rw [pq_N, pq_nt, if_neg h2, e4, e3, Int32.add_zero, pq_tsN g3 (by omega)]; rfl
  have hy : f_X0_noteYearByYear rf (x + 2 + 7 + b) (Int32.ofNat A) σ = some (pq_N g b 0, σ) := by
    have hl := fun (K : Int32 → Int32 → rc_S → Option (Int32 × rc_S)) => q0_yby (rf := rf) (σ := σ) (a := x + 2 + 7 + b) (K := K) g3 (show A ≤ 90000 by omega) A (99999 - A) 0 (by omega)
    rw [← pq_fu A (by omega), if_pos (show T + 0 / 2 ≤ 9 by omega), show T + 0 / 2 = T by omega, show Int32.ofNat (0 + 1) = (1 : Int32) from rfl] at hl
    rw [f_X0_noteYearByYear, rc_lt, pq_b4 hR hb, e3, hl, q0_taste (by rw [pq_b1 hR hb]; have := pq_vh hV hb; omega), pq_bd, pq_b1 hR hb, pq_b2 hR hb, hv]; rfl
  simp (disch := omega) only [f_X8_noteAgain, pq_bd, pq_ck, pq_bx, rc_lt, pq_i10, pq_i01, pq_x1 hX, pq_x2 hX, pq_x5 hX, pq_x6 hX, pq_x8 hX, pq_k0 hK, pq_k1 hK, pq_k3 hK, pq_k4 hK, pq_kp hK, pq_ks hK, hfi, q1_age hR hb, ha, hy, not_false_eq_true, not_true_eq_false, and_self, and_true, true_and, and_false, false_and, or_true, true_or, or_false, false_or, if_true, if_false, ↓reduceIte, Decidable.not_not, ne_eq, Int32.reduceLE, Int32.reduceLT, pq_nes, eq_self]
theorem ql_noteA (hX : pq_X rf x) (hR : pq_R σ (x + 2) g n p) (hV : pq_V g n p N) (hN : N ≤ 90000) (hb : b < n) (h2 : g (16 + 6 * b) ≠ 0) : f_L_noteAgain rf z x (Int32.ofNat b) σ = some (pq_N g b 0, σ) := by
  rw [f_L_noteAgain, qf_noteA hX hR hV hN hb h2]
  rfl
theorem qf_noteAE (hX : pq_X rf x) (hR : pq_R σ (x + 2) g n p) (hV : pq_V g n p N) (hb : b < n) (h2 : g (16 + 6 * b) = 0) : f_X8_noteAgain rf x (Int32.ofNat b) σ = some (4, 0, σ) := by
  have hK := pq_xk hX
  have h8 := pq_vn hV
  have h4 := pq_vp hV
  have h1 := pb_u hV hb
  simp (disch := omega) only [f_X8_noteAgain, pq_bd, pq_ck, pq_bx, rc_lt, pq_i10, pq_i01, pq_x1 hX, pq_x2 hX, pq_x5 hX, pq_x6 hX, pq_x8 hX, pq_k0 hK, pq_k1 hK, pq_k3 hK, pq_k4 hK, pq_kp hK, pq_ks hK, q8_fi hX hR hV hb h1, h2, pq_bxk (show (2 : Nat) ≠ 0 by decide), pq_bxk (show (4 : Nat) ≠ 0 by decide), not_false_eq_true, not_true_eq_false, and_self, and_true, true_and, and_false, false_and, or_true, true_or, or_false, false_or, if_true, if_false, ↓reduceIte, Decidable.not_not, ne_eq, Int32.reduceLE, Int32.reduceLT, pq_nes, eq_self]
theorem ql_noteAE (hX : pq_X rf x) (hR : pq_R σ (x + 2) g n p) (hV : pq_V g n p N) (hb : b < n) (h2 : g (16 + 6 * b) = 0) : f_L_noteAgain rf z x (Int32.ofNat b) σ = some (-75, σ) := by
  rw [f_L_noteAgain, qf_noteAE hX hR hV hb h2]
  first | rfl | (simp only [rc_tr, rc_mz]; rfl)
theorem qf_noteIn (hX : pq_X rf x) (hR : pq_R σ (x + 2) g n p) (hV : pq_V g n p N) {u : Int32} (hb : b < n) (h2 : g (16 + 6 * b) ≠ 0) (h3 : ¬ u < 0 ∧ ¬ 20 < u) : f_X8_noteIn rf x (Int32.ofNat b) u σ = some (0, pq_N g b u, σ) := by
  have hK := pq_xk hX
  have h8 := pq_vn hV
  have h4 := pq_vp hV
  have h1 := pb_u hV hb
  have hfi : f_X8_filled rf x (Int32.ofNat b) σ = some (0, x + 2 + 7 + b, σ) := by rw [q8_fi hX hR hV hb h1, if_neg h2]
  simp (disch := omega) only [f_X8_noteIn, pq_bd, pq_ck, pq_bx, rc_lt, pq_i10, pq_i01, pq_x1 hX, pq_x2 hX, pq_x5 hX, pq_x6 hX, pq_x8 hX, pq_k0 hK, pq_k1 hK, pq_k3 hK, pq_k4 hK, pq_kp hK, pq_ks hK, hfi, q8_out, if_pos h3, pq_c3 hR, q1_ageY hR hb, q1_at hR hV hb, pq_n0 hV hb (Or.inr h2), not_false_eq_true, not_true_eq_false, and_self, and_true, true_and, and_false, false_and, or_true, true_or, or_false, false_or, if_true, if_false, ↓reduceIte, Decidable.not_not, ne_eq, Int32.reduceLE, Int32.reduceLT, pq_nes, eq_self]
theorem ql_noteIn (hX : pq_X rf x) (hR : pq_R σ (x + 2) g n p) (hV : pq_V g n p N) {u : Int32} (hb : b < n) (h2 : g (16 + 6 * b) ≠ 0) (h3 : ¬ u < 0 ∧ ¬ 20 < u) : f_L_noteIn rf z x (Int32.ofNat b) u σ = some (pq_N g b u, σ) := by
  rw [f_L_noteIn, qf_noteIn hX hR hV hb h2 h3]
  rfl
theorem qf_ntc (hX : pq_X rf x) (hR : pq_R σ (x + 2) g n p) (hV : pq_V g n p N) (hj : j < p) (hb : b < n) : f_X8_notices rf x (Int32.ofNat j) (Int32.ofNat b) σ = some (0, (if ¬ pq_P g b ≤ 0 ∧ ¬ pq_P g b ≤ 50 - 5 * (g (63 + 2 * j) + 2 * g (64 + 2 * j)) then (1 : Int32) else 0), σ) := by
  have hK := pq_xk hX
  have h8 := pq_vn hV
  have h4 := pq_vp hV
  have h1 := pb_s hV hj
  have h2 := pb_u hV hb
  simp (disch := omega) only [f_X8_notices, pq_bd, pq_ck, pq_bx, rc_lt, pq_i10, pq_i01, pq_x1 hX, pq_x2 hX, pq_x5 hX, pq_x6 hX, pq_x8 hX, pq_k0 hK, pq_k1 hK, pq_k3 hK, pq_k4 hK, pq_kp hK, pq_ks hK, q3_has hR, h1, q8_ex hX hR hV hb h2, q1_part hR hV hb, q3_notice hK hR hV hj, pq_cd pq_nb, not_false_eq_true, not_true_eq_false, and_self, and_true, true_and, and_false, false_and, or_true, true_or, or_false, false_or, if_true, if_false, ↓reduceIte, Decidable.not_not, ne_eq, Int32.reduceLE, Int32.reduceLT, pq_nes, eq_self]
theorem ql_ntc (hX : pq_X rf x) (hR : pq_R σ (x + 2) g n p) (hV : pq_V g n p N) (hj : j < p) (hb : b < n) : f_L_notices rf z x (Int32.ofNat j) (Int32.ofNat b) σ = some ((if ¬ pq_P g b ≤ 0 ∧ ¬ pq_P g b ≤ 50 - 5 * (g (63 + 2 * j) + 2 * g (64 + 2 * j)) then (1 : Int32) else 0), σ) := by
  rw [f_L_notices, qf_ntc hX hR hV hj hb]
  by_cases h : ¬ pq_P g b ≤ 0 ∧ ¬ pq_P g b ≤ 50 - 5 * (g (63 + 2 * j) + 2 * g (64 + 2 * j))
  · rw [if_pos h]; rfl
  · rw [if_neg h]; rfl
theorem qf_nos (hX : pq_X rf x) (hR : pq_R σ (x + 2) g n p) (hV : pq_V g n p N) (hb : b < n) : f_X8_noticing rf x (Int32.ofNat b) σ = some (0, pq_ns g p (pq_P g b), σ) := by
  have hK := pq_xk hX
  have h8 := pq_vn hV
  have h4 := pq_vp hV
  have h1 := pb_u hV hb
  simp (disch := omega) only [f_X8_noticing, pq_bd, pq_ck, pq_bx, rc_lt, pq_i10, pq_i01, pq_x1 hX, pq_x2 hX, pq_x5 hX, pq_x6 hX, pq_x8 hX, pq_k0 hK, pq_k1 hK, pq_k3 hK, pq_k4 hK, pq_kp hK, pq_ks hK, q8_ex hX hR hV hb h1, q1_part hR hV hb, q_3_noses hK hR hV, not_false_eq_true, not_true_eq_false, and_self, and_true, true_and, and_false, false_and, or_true, true_or, or_false, false_or, if_true, if_false, ↓reduceIte, Decidable.not_not, ne_eq, Int32.reduceLE, Int32.reduceLT, pq_nes, eq_self]
theorem ql_nos (hX : pq_X rf x) (hR : pq_R σ (x + 2) g n p) (hV : pq_V g n p N) (hb : b < n) : f_L_noticing rf z x (Int32.ofNat b) σ = some (pq_ns g p (pq_P g b), σ) := by
  rw [f_L_noticing, qf_nos hX hR hV hb]
  first | rfl | (simp only [rc_tr, rc_mz]; rfl)
theorem qf_nosO (hX : pq_X rf x) (hR : pq_R σ (x + 2) g n p) (hV : pq_V g n p N)  : f_X8_noticing rf x (Int32.ofNat n) σ = some (2, 0, σ) := by
  have hK := pq_xk hX
  have h8 := pq_vn hV
  have h4 := pq_vp hV
  have h1 := pb_o hV
  simp (disch := omega) only [f_X8_noticing, pq_bd, pq_ck, pq_bx, rc_lt, pq_i10, pq_i01, pq_x1 hX, pq_x2 hX, pq_x5 hX, pq_x6 hX, pq_x8 hX, pq_k0 hK, pq_k1 hK, pq_k3 hK, pq_k4 hK, pq_kp hK, pq_ks hK, q8_ex0 hX hR h1, pq_bxk (show (2 : Nat) ≠ 0 by decide), pq_bxk (show (4 : Nat) ≠ 0 by decide), not_false_eq_true, not_true_eq_false, and_self, and_true, true_and, and_false, false_and, or_true, true_or, or_false, false_or, if_true, if_false, ↓reduceIte, Decidable.not_not, ne_eq, Int32.reduceLE, Int32.reduceLT, pq_nes, eq_self]
theorem ql_nosO (hX : pq_X rf x) (hR : pq_R σ (x + 2) g n p) (hV : pq_V g n p N)  : f_L_noticing rf z x (Int32.ofNat n) σ = some (-77, σ) := by
  rw [f_L_noticing, qf_nosO hX hR hV ]
  first | rfl | (simp only [rc_tr, rc_mz]; rfl)
theorem qf_can (hX : pq_X rf x) (hR : pq_R σ (x + 2) g n p) (hV : pq_V g n p N) {a : Nat} (ha : a < n) (hb : b < n) : f_X8_canPour rf x (Int32.ofNat a) (Int32.ofNat b) σ = some (0, (if Int32.ofNat a = Int32.ofNat b ∨ g (16 + 6 * a) = 0 then (0 : Int32) else if g (16 + 6 * b) = 0 then 1 else if g (18 + 6 * b) = g (18 + 6 * a) ∧ ¬ 20 ≤ g (16 + 6 * b) then 1 else 0), σ) := by
  have hK := pq_xk hX
  have h8 := pq_vn hV
  have h4 := pq_vp hV
  have h1 := pb_u hV ha
  have h2 := pb_u hV hb
  have va := pq_vh hV ha
  have vb := pq_vh hV hb
  have wa := pq_i0 (Int.le_trans va.1 va.2.1)
  have wb := pq_i0 (Int.le_trans vb.1 vb.2.1)
  have wc := pq_i20 vb.2.2
  have e1 : (g (16 + 6 * a) ≤ 0) = (g (16 + 6 * a) = 0) := by apply propext; constructor <;> intro q <;> grind
  have e2 : ((20 : Int32) - g (16 + 6 * b) ≤ 0) = (20 ≤ g (16 + 6 * b)) := by apply propext; constructor <;> intro q <;> grind
  have e3 : g (16 + 6 * b) = 0 → ¬ (20 : Int32) ≤ g (16 + 6 * b) := by intro q; rw [q]; decide
  simp (disch := omega) only [f_X8_canPour, pq_bd, pq_ck, pq_bx, rc_lt, pq_i10, pq_i01, pq_x1 hX, pq_x2 hX, pq_x5 hX, pq_x6 hX, pq_x8 hX, pq_k0 hK, pq_k1 hK, pq_k3 hK, pq_k4 hK, pq_kp hK, pq_ks hK, q8_ex hX hR hV ha h1, q8_ex hX hR hV hb h2, f_X0_room, f_X0_isFreeFor, q0_empty, pq_b1 hR, pq_b3 hR, e1, e2, not_false_eq_true, not_true_eq_false, and_self, and_true, true_and, and_false, false_and, or_true, true_or, or_false, false_or, if_true, if_false, ↓reduceIte, Decidable.not_not, ne_eq, Int32.reduceLE, Int32.reduceLT, pq_nes, eq_self]
  by_cases c1 : Int32.ofNat a = Int32.ofNat b <;> by_cases c2 : g (16 + 6 * a) = 0 <;> by_cases c3 : g (16 + 6 * b) = 0 <;> by_cases c4 : g (18 + 6 * b) = g (18 + 6 * a) <;> by_cases c5 : (20 : Int32) ≤ g (16 + 6 * b) <;> first | exact absurd c5 (e3 c3) | simp [c1, c2, c3, c4, c5, pq_bd]
theorem ql_can (hX : pq_X rf x) (hR : pq_R σ (x + 2) g n p) (hV : pq_V g n p N) {a : Nat} (ha : a < n) (hb : b < n) : f_L_canPour rf z x (Int32.ofNat a) (Int32.ofNat b) σ = some ((if Int32.ofNat a = Int32.ofNat b ∨ g (16 + 6 * a) = 0 then (0 : Int32) else if g (16 + 6 * b) = 0 then 1 else if g (18 + 6 * b) = g (18 + 6 * a) ∧ ¬ 20 ≤ g (16 + 6 * b) then 1 else 0), σ) := by
  rw [f_L_canPour, qf_can hX hR hV ha hb]
  simp only [rc_mz, rc_tr, if_true]
  repeat' split
  all_goals first | rfl | (exfalso; simp_all)
theorem ql_vin (hX : pq_X rf x) (hR : pq_R σ (x + 2) g n p) (hV : pq_V g n p N) {u : Int32} (h1 : ¬ u < 0 ∧ ¬ g 4 - 1 < u) : f_L_vintage rf z x u σ = some (pq_fd (fun b a => if g (18 + 6 * b) = u then a + g (16 + 6 * b) else a) 0 n 0, σ) := by
  have hK := pq_xk hX
  have h8 := pq_vn hV
  have h4 := pq_vp hV
  have e : f_X8_vintage rf x u σ = some (0, pq_fd (fun b a => if g (18 + 6 * b) = u then a + g (16 + 6 * b) else a) 0 n 0, σ) := by
    simp (disch := omega) only [f_X8_vintage, pq_bd, pq_ck, pq_bx, rc_lt, pq_i10, pq_i01, pq_x1 hX, pq_x2 hX, pq_x5 hX, pq_x6 hX, pq_x8 hX, pq_k0 hK, pq_k1 hK, pq_k3 hK, pq_k4 hK, pq_kp hK, pq_ks hK, q8_out, pq_c4 hR, if_pos h1, q_1_litresOfStorm hK hR hV, not_false_eq_true, not_true_eq_false, and_self, and_true, true_and, and_false, false_and, or_true, true_or, or_false, false_or, if_true, if_false, ↓reduceIte, Decidable.not_not, ne_eq, Int32.reduceLE, Int32.reduceLT, pq_nes, eq_self]
  rw [f_L_vintage, e]
  rfl
theorem ql_vinO (hX : pq_X rf x) (hR : pq_R σ (x + 2) g n p) (hV : pq_V g n p N) {u : Int32} (h1 : ¬ (¬ u < 0 ∧ ¬ g 4 - 1 < u)) : f_L_vintage rf z x u σ = some (-75, σ) := by
  have hK := pq_xk hX
  have e : f_X8_vintage rf x u σ = some (4, 0, σ) := by
    simp (disch := omega) only [f_X8_vintage, pq_bd, pq_ck, pq_bx, rc_lt, pq_i10, pq_i01, pq_x1 hX, pq_x2 hX, pq_x5 hX, pq_x6 hX, pq_x8 hX, pq_k0 hK, pq_k1 hK, pq_k3 hK, pq_k4 hK, pq_kp hK, pq_ks hK, q8_out, pq_c4 hR, if_neg h1, not_false_eq_true, not_true_eq_false, and_self, and_true, true_and, and_false, false_and, or_true, true_or, or_false, false_or, if_true, if_false, ↓reduceIte, Decidable.not_not, ne_eq, Int32.reduceLE, Int32.reduceLT, pq_nes, eq_self]
  rw [f_L_vintage, e]
  rfl
theorem ql_sto0 (hX : pq_X rf x) (hR : pq_R σ (x + 2) g n p) (hV : pq_V g n p N) {s : Nat} (hs : s < 2147483648) (h1 : ¬ Int32.ofNat s < 0) (h2 : ¬ g 4 ≤ Int32.ofNat s) (h3' : ¬ Int32.ofNat s < g 4 - 12) : f_L_stormOf rf z x (Int32.ofNat s) (0 : Int32) σ = some (g (71 + 3 * (s % 12)), σ) := by
  have hK := pq_xk hX
  have hm := pq_m12 (s := s)
  have e : f_X8_stormOf rf x (Int32.ofNat s) (0 : Int32) σ = some (0, g (71 + 3 * (s % 12)), σ) := by
    simp (disch := omega) only [f_X8_stormOf, pq_bd, pq_ck, pq_bx, rc_lt, pq_i10, pq_i01, pq_x1 hX, pq_x2 hX, pq_x5 hX, pq_x6 hX, pq_x8 hX, pq_k0 hK, pq_k1 hK, pq_k3 hK, pq_k4 hK, pq_kp hK, pq_ks hK, f_X1_isLateStorm, f_X1_rainfallOf, pq_c4 hR, h1, h2, h3', pq_fm12, pq_in, pq_cl, pq_kr hK, pq_q0 hR, not_false_eq_true, not_true_eq_false, and_self, and_true, true_and, and_false, false_and, or_true, true_or, or_false, false_or, if_true, if_false, ↓reduceIte, Decidable.not_not, ne_eq, Int32.reduceLE, Int32.reduceLT, pq_nes, eq_self]
  rw [f_L_stormOf, e]
  rfl
theorem ql_sto1 (hX : pq_X rf x) (hR : pq_R σ (x + 2) g n p) (hV : pq_V g n p N) {s : Nat} (hs : s < 2147483648) (h1 : ¬ Int32.ofNat s < 0) (h2 : ¬ g 4 ≤ Int32.ofNat s) (h3' : ¬ Int32.ofNat s < g 4 - 12) : f_L_stormOf rf z x (Int32.ofNat s) (1 : Int32) σ = some (g (72 + 3 * (s % 12)), σ) := by
  have hK := pq_xk hX
  have hm := pq_m12 (s := s)
  have e : f_X8_stormOf rf x (Int32.ofNat s) (1 : Int32) σ = some (0, g (72 + 3 * (s % 12)), σ) := by
    simp (disch := omega) only [f_X8_stormOf, pq_bd, pq_ck, pq_bx, rc_lt, pq_i10, pq_i01, pq_x1 hX, pq_x2 hX, pq_x5 hX, pq_x6 hX, pq_x8 hX, pq_k0 hK, pq_k1 hK, pq_k3 hK, pq_k4 hK, pq_kp hK, pq_ks hK, f_X1_isLateStorm, f_X1_rainfallOf, pq_c4 hR, h1, h2, h3', pq_fm12, pq_in, pq_cl, pq_kr hK, pq_q1 hR, not_false_eq_true, not_true_eq_false, and_self, and_true, true_and, and_false, false_and, or_true, true_or, or_false, false_or, if_true, if_false, ↓reduceIte, Decidable.not_not, ne_eq, Int32.reduceLE, Int32.reduceLT, pq_nes, eq_self]
  rw [f_L_stormOf, e]
  rfl
theorem ql_sto2 (hX : pq_X rf x) (hR : pq_R σ (x + 2) g n p) (hV : pq_V g n p N) {s : Nat} (hs : s < 2147483648) (h1 : ¬ Int32.ofNat s < 0) (h2 : ¬ g 4 ≤ Int32.ofNat s) (h3' : ¬ Int32.ofNat s < g 4 - 12) : f_L_stormOf rf z x (Int32.ofNat s) (2 : Int32) σ = some (g (73 + 3 * (s % 12)), σ) := by
  have hK := pq_xk hX
  have hm := pq_m12 (s := s)
  have e : f_X8_stormOf rf x (Int32.ofNat s) (2 : Int32) σ = some (0, g (73 + 3 * (s % 12)), σ) := by
    simp (disch := omega) only [f_X8_stormOf, pq_bd, pq_ck, pq_bx, rc_lt, pq_i10, pq_i01, pq_x1 hX, pq_x2 hX, pq_x5 hX, pq_x6 hX, pq_x8 hX, pq_k0 hK, pq_k1 hK, pq_k3 hK, pq_k4 hK, pq_kp hK, pq_ks hK, f_X1_isLateStorm, f_X1_rainfallOf, pq_c4 hR, h1, h2, h3', pq_fm12, pq_in, pq_cl, pq_kr hK, pq_q2 hR, not_false_eq_true, not_true_eq_false, and_self, and_true, true_and, and_false, false_and, or_true, true_or, or_false, false_or, if_true, if_false, ↓reduceIte, Decidable.not_not, ne_eq, Int32.reduceLE, Int32.reduceLT, pq_nes, eq_self]
  rw [f_L_stormOf, e]
  rfl
theorem ql_stoO (hX : pq_X rf x) (hR : pq_R σ (x + 2) g n p) (hV : pq_V g n p N) {u w : Int32} (h1 : ¬ u < 0) (h2 : ¬ g 4 ≤ u) (h3 : u < g 4 - 12) : f_L_stormOf rf z x u w σ = some (-75, σ) := by
  have hK := pq_xk hX
  have e : f_X8_stormOf rf x u w σ = some (4, 0, σ) := by
    simp (disch := omega) only [f_X8_stormOf, pq_bd, pq_ck, pq_bx, rc_lt, pq_i10, pq_i01, pq_x1 hX, pq_x2 hX, pq_x5 hX, pq_x6 hX, pq_x8 hX, pq_k0 hK, pq_k1 hK, pq_k3 hK, pq_k4 hK, pq_kp hK, pq_ks hK, f_X1_isLateStorm, f_X1_rainfallOf, pq_c4 hR, h1, h2, h3, not_false_eq_true, not_true_eq_false, and_self, and_true, true_and, and_false, false_and, or_true, true_or, or_false, false_or, if_true, if_false, ↓reduceIte, Decidable.not_not, ne_eq, Int32.reduceLE, Int32.reduceLT, pq_nes, eq_self]
  rw [f_L_stormOf, e]
  rfl
theorem qf_even (hX : pq_X rf x) (hR : pq_R σ (x + 2) g n p) (hV : pq_V g n p N) : f_X8_isEven rf x σ = some (if g 5 + g 6 = pb_fl g n + g 8 + g 9 then 1 else 0, σ) := by
  have hK := pq_xk hX
  have h8 := pq_vn hV
  have h4 := pq_vp hV
  simp (disch := omega) only [f_X8_isEven, pq_bd, pq_ck, pq_bx, rc_lt, pq_i10, pq_i01, pq_x1 hX, pq_x2 hX, pq_x5 hX, pq_x6 hX, pq_x8 hX, pq_k0 hK, pq_k1 hK, pq_k3 hK, pq_k4 hK, pq_kp hK, pq_ks hK, pq_c0 hR, pq_c1 hR, pq_c2 hR, pq_c3 hR, pq_c4 hR, pq_c5 hR, pq_c6 hR, pq_c7 hR, pq_c8 hR, pq_c9 hR, pq_c10 hR, q_1_litresInBarrels hK hR hV, pb_fl, not_false_eq_true, not_true_eq_false, and_self, and_true, true_and, and_false, false_and, or_true, true_or, or_false, false_or, if_true, if_false, ↓reduceIte, Decidable.not_not, ne_eq, Int32.reduceLE, Int32.reduceLT, pq_nes, eq_self]
  by_cases h : g 5 + g 6 = pq_fd (fun b a => a + g (16 + 6 * b)) 0 n 0 + g 8 + g 9 <;> simp only [h, if_true, if_false]
theorem ql_rank (hX : pq_X rf x) (hR : pq_R σ (x + 2) g n p) (hV : pq_V g n p N) {u : Int32} {k : Nat} (h1 : ¬ u < 0 ∧ ¬ 3 < u) : f_L_ranked rf z x u (Int32.ofNat k) σ = some (match (List.range' 0 n).find? (fun b => decide (pq_pl g n u b = Int32.ofNat k)) with | some b => Int32.ofNat b | none => -75, σ) := by
  have hK := pq_xk hX
  have h8 := pq_vn hV
  have h4 := pq_vp hV
  have hl8 := fun (K : Int32 → rc_S → Option (Nat × Int32 × rc_S)) => q_8_ranked_19 hX hR hV u (Int32.ofNat k) K n (99999 - n) 0 (by omega)
  rw [← pq_fu n (by omega), show Int32.ofNat 0 = (0 : Int32) from rfl] at hl8
  cases hf : (List.range' 0 n).find? (fun b => decide (pq_pl g n u b = Int32.ofNat k)) with
  | some b =>
    have e : f_X8_ranked rf x u (Int32.ofNat k) σ = some (0, Int32.ofNat b, σ) := by
      simp (disch := omega) only [f_X8_ranked, pq_bd, pq_ck, pq_bx, rc_lt, pq_i10, pq_i01, pq_x1 hX, pq_x2 hX, pq_x5 hX, pq_x6 hX, pq_x8 hX, pq_k0 hK, pq_k1 hK, pq_k3 hK, pq_k4 hK, pq_kp hK, pq_ks hK, q8_out, h1, hl8, hf, not_false_eq_true, not_true_eq_false, and_self, and_true, true_and, and_false, false_and, or_true, true_or, or_false, false_or, if_true, if_false, ↓reduceIte, Decidable.not_not, ne_eq, Int32.reduceLE, Int32.reduceLT, pq_nes, eq_self]
    rw [f_L_ranked, e]
    rfl
  | none =>
    have e : f_X8_ranked rf x u (Int32.ofNat k) σ = some (4, 0, σ) := by
      simp (disch := omega) only [f_X8_ranked, pq_bd, pq_ck, pq_bx, rc_lt, pq_i10, pq_i01, pq_x1 hX, pq_x2 hX, pq_x5 hX, pq_x6 hX, pq_x8 hX, pq_k0 hK, pq_k1 hK, pq_k3 hK, pq_k4 hK, pq_kp hK, pq_ks hK, q8_out, h1, hl8, hf, not_false_eq_true, not_true_eq_false, and_self, and_true, true_and, and_false, false_and, or_true, true_or, or_false, false_or, if_true, if_false, ↓reduceIte, Decidable.not_not, ne_eq, Int32.reduceLE, Int32.reduceLT, pq_nes, eq_self]
    rw [f_L_ranked, e]
    rfl
theorem ql_mean (hX : pq_X rf x) (hR : pq_R σ (x + 2) g n p) (hV : pq_V g n p N) (hN : N ≤ 90000) : ∃ Q F, Q ≤ 72 ∧ F ≤ 8 ∧ pq_fd (fun b a => a + pq_N g b 0) 0 n 0 = Int32.ofNat Q ∧ pq_fd (fun b a => if g (16 + 6 * b) = 0 then a else a + 1) 0 n 0 = Int32.ofNat F ∧ f_L_meanNote rf z x σ = some (if F = 0 then (13858279740860792832 : UInt64) else FP.ddiv (FP.i2d (Int32.ofNat Q)) (FP.i2d (Int32.ofNat F)), σ) := by
  have hK := pq_xk hX
  have h8 := pq_vn hV
  have h4 := pq_vp hV
  have hl8 := fun (K : Int32 → Int32 → Int32 → rc_S → Option (Nat × UInt64 × rc_S)) => q_8_mean_6 hX hR hV K n (99999 - n) 0 0 0 (by omega)
  rw [← pq_fu n (by omega), show Int32.ofNat 0 = (0 : Int32) from rfl] at hl8
  obtain ⟨Q, hQ, eQ⟩ := pq_fdN (h := fun b => pq_N g b 0) (n := n) (M := 9) (fun b hb => pq_N9 hV hN hb) n 0 0 0 rfl (by omega)
  obtain ⟨F, -, hF, eF⟩ := pq_cnt (f := fun b => g (16 + 6 * b) = 0) (df := fun b => inferInstance) n 0 0 0 rfl
  refine ⟨Q, F, by omega, by omega, eQ, eF, ?_⟩
  by_cases h0 : F = 0
  · subst h0
    rw [f_L_meanNote, f_X8_meanNote, hl8, eQ, eF, show Int32.ofNat 0 = (0 : Int32) from rfl, if_pos rfl, if_pos rfl]
    rfl
  · have hz : ¬ Int32.ofNat F = 0 := fun q => h0 ((pq_eq (by omega) (show 0 < 2147483648 by decide)).mp q)
    have hd := pq_dn0 Q (by omega) F (by omega) h0
    rw [f_L_meanNote, f_X8_meanNote, hl8, eQ, eF, if_neg hz, pq_cd hd, if_neg h0]
    rfl
theorem pb_fnn : ∀ f, f < 161 → f ≠ 0 → ∀ q, q < 161 → FP.fdiv (FP.i2f (Int32.ofNat q)) (FP.i2f (Int32.ofNat f)) &&& 0x7fffffff ≤ 0x7f800000 := fun f hf h0 q hq => (pq_fnn f hf h0 q hq).1
theorem ql_hs (hX : pq_X rf x) (hR : pq_R σ (x + 2) g n p) (hV : pq_V g n p N) : ∃ Q F, Q ≤ 160 ∧ F ≤ 160 ∧ pb_fh g n = Int32.ofNat Q ∧ pb_fl g n = Int32.ofNat F ∧ f_L_hailShare rf z x σ = some (if F = 0 then (3264479232 : UInt32) else FP.fdiv (FP.i2f (Int32.ofNat Q)) (FP.i2f (Int32.ofNat F)), σ) := by
  have hK := pq_xk hX
  have h8 := pq_vn hV
  have h4 := pq_vp hV
  obtain ⟨Q, hQ, eQ⟩ := pq_fdN (h := fun b => g (17 + 6 * b)) (n := n) (M := 20) (fun b hb => by obtain ⟨H, L, T, h1, h2, -, e1, -⟩ := pq_bN hV hb; exact ⟨H, by omega, e1⟩) n 0 0 0 rfl (by omega)
  obtain ⟨F, hF, eF⟩ := pq_fdN (h := fun b => g (16 + 6 * b)) (n := n) (M := 20) (fun b hb => by obtain ⟨H, L, T, h1, h2, -, -, e1, -⟩ := pq_bN hV hb; exact ⟨L, by omega, e1⟩) n 0 0 0 rfl (by omega)
  refine ⟨Q, F, by omega, by omega, eQ, eF, ?_⟩
  by_cases h0 : F = 0
  · subst h0
    rw [f_L_hailShare, f_X8_hailShare, pq_x1 hX, q_1_litresInBarrels hK hR hV, pq_bd, eF, show Int32.ofNat 0 = (0 : Int32) from rfl, if_pos rfl, if_pos rfl]
    rfl
  · have hz : ¬ Int32.ofNat F = 0 := fun q => h0 ((pq_eq (by omega) (show 0 < 2147483648 by decide)).mp q)
    have hd := pb_fnn F (by omega) h0 Q (by omega)
    rw [f_L_hailShare, f_X8_hailShare, pq_x1 hX, q_1_litresInBarrels hK hR hV, pq_bd, eF, if_neg hz, q_1_hailInBarrels hK hR hV, pq_bd, eQ, pq_cd hd, if_neg h0]
    rfl
theorem ql_hid (hX : pq_X rf x) (hR : pq_R σ (x + 2) g n p) (hV : pq_V g n p N) (hb : b < n) (h2 : g (16 + 6 * b) ≠ 0) (h3 : pq_ns g p (pq_P g b) = 0) : ∃ D M, D ≤ M ∧ M ≤ 20 ∧ (if g 2 < 20 - g (16 + 6 * b) then g 2 else 20 - g (16 + 6 * b)) = Int32.ofNat M ∧ (p = 0 → D = M) ∧ f_L_hidden rf z x (Int32.ofNat b) σ = some (Int32.ofNat D, σ) ∧ f_L_hiddenAgain rf z x (Int32.ofNat b) σ = some (Int32.ofNat D, σ) := by
  have hK := pq_xk hX
  have h8 := pq_vn hV
  have h4 := pq_vp hV
  have h1 := pb_u hV hb
  have hfi : f_X8_filled rf x (Int32.ofNat b) σ = some (0, x + 2 + 7 + b, σ) := by rw [q8_fi hX hR hV hb h1, if_neg h2]
  have hb8 : b < 8 := by omega
  obtain ⟨Hh, L, T, a1, a2, -, e1, e2, -⟩ := pq_bN hV hb
  obtain ⟨Bk, hB, e3⟩ := pq_natL (n := 9) (pq_v2 hV).1 (pq_v2 hV).2 (by decide)
  have hU0 : pq_U g p (pq_pk g b 0) := by rw [pq_pk0]; exact (pq_nsU h4).mp h3
  have eR : (20 : Int32) - g (16 + 6 * b) = Int32.ofNat (20 - L) := by rw [e2, Int32.ofNat_sub _ _ a2]; rfl
  have hm : (if g 2 < 20 - g (16 + 6 * b) then g 2 else 20 - g (16 + 6 * b)) = Int32.ofNat (if Bk < 20 - L then Bk else 20 - L) := by
    rw [eR, e3]
    by_cases hc : Bk < 20 - L
    · rw [if_pos hc, if_pos ((pq_lt (by omega) (by omega)).mpr hc)]
    · rw [if_neg hc, if_neg (fun q => hc ((pq_lt (by omega) (by omega)).mp q))]
  have hM20 : (if Bk < 20 - L then Bk else 20 - L) ≤ 20 := by split <;> omega
  generalize hMM : (if Bk < 20 - L then Bk else 20 - L) = M at hm hM20
  obtain ⟨D, d1, d2, d3⟩ := pq_top g p b hU0 M
  have hl8 := q8_hid hX hR hV hb (K := fun v3_8 σ_9 => some (0, (0 : Int32), σ_9)) rfl hM20 d2 d3 M (99999 - M) d1 (Nat.le_refl M)
  rw [← pq_fu M (by omega)] at hl8
  have hlA := fun (K : Int32 → rc_S → Option (Nat × Int32 × rc_S)) => q8_hidA hX hR hV hb h2 (K := K) hM20 d1 d2 d3 D 0 (99999 - D) (by omega)
  rw [← pq_fu D (by omega)] at hlA
  refine ⟨D, M, d1, hM20, hm, fun hp => ?_, ?_, ?_⟩
  · by_cases hDM : D < M
    · exact absurd (fun j hj => absurd hj (by omega)) (d3 M hDM (Nat.le_refl M))
    · omega
  · have e : f_X8_hidden rf x (Int32.ofNat b) σ = some (0, Int32.ofNat D, σ) := by
      simp (disch := omega) only [f_X8_hidden, pq_bd, pq_ck, pq_bx, rc_lt, pq_i10, pq_i01, pq_x1 hX, pq_x2 hX, pq_x5 hX, pq_x6 hX, pq_x8 hX, pq_k0 hK, pq_k1 hK, pq_k3 hK, pq_k4 hK, pq_kp hK, pq_ks hK, f_X8_unnoticed, f_X1_mostHailFor, f_X0_room, hfi, q1_part hR hV hb, q_3_noses hK hR hV, h3, pq_c2 hR, pq_b1 hR, hm, not_false_eq_true, not_true_eq_false, and_self, and_true, true_and, and_false, false_and, or_true, true_or, or_false, false_or, if_true, if_false, ↓reduceIte, Decidable.not_not, ne_eq, Int32.reduceLE, Int32.reduceLT, pq_nes, eq_self]
      exact hl8
    rw [f_L_hidden, e]
    rfl
  · have e : f_X8_hiddenAgain rf x (Int32.ofNat b) σ = some (0, Int32.ofNat D, σ) := by
      simp (disch := omega) only [f_X8_hiddenAgain, pq_bd, pq_ck, pq_bx, rc_lt, pq_i10, pq_i01, pq_x1 hX, pq_x2 hX, pq_x5 hX, pq_x6 hX, pq_x8 hX, pq_k0 hK, pq_k1 hK, pq_k3 hK, pq_k4 hK, pq_kp hK, pq_ks hK, f_X8_unnoticed, f_X1_mostHailFor, f_X0_room, hfi, q1_part hR hV hb, q_3_noses hK hR hV, h3, pq_c2 hR, pq_b1 hR, hm, not_false_eq_true, not_true_eq_false, and_self, and_true, true_and, and_false, false_and, or_true, true_or, or_false, false_or, if_true, if_false, ↓reduceIte, Decidable.not_not, ne_eq, Int32.reduceLE, Int32.reduceLT, pq_nes, eq_self]
      exact hlA _
    rw [f_L_hiddenAgain, e]
    rfl
theorem ql_hidN (hX : pq_X rf x) (hR : pq_R σ (x + 2) g n p) (hV : pq_V g n p N) (hb : b < n) (h2 : g (16 + 6 * b) ≠ 0) (h3 : pq_ns g p (pq_P g b) ≠ 0) : f_L_hidden rf z x (Int32.ofNat b) σ = some (-75, σ) ∧ f_L_hiddenAgain rf z x (Int32.ofNat b) σ = some (-75, σ) := by
  have hK := pq_xk hX
  have h8 := pq_vn hV
  have h4 := pq_vp hV
  have h1 := pb_u hV hb
  have hfi : f_X8_filled rf x (Int32.ofNat b) σ = some (0, x + 2 + 7 + b, σ) := by rw [q8_fi hX hR hV hb h1, if_neg h2]
  refine ⟨?_, ?_⟩
  · have e : f_X8_hidden rf x (Int32.ofNat b) σ = some (4, 0, σ) := by
      simp (disch := omega) only [f_X8_hidden, pq_bd, pq_ck, pq_bx, rc_lt, pq_i10, pq_i01, pq_x1 hX, pq_x2 hX, pq_x5 hX, pq_x6 hX, pq_x8 hX, pq_k0 hK, pq_k1 hK, pq_k3 hK, pq_k4 hK, pq_kp hK, pq_ks hK, f_X8_unnoticed, f_X1_mostHailFor, f_X0_room, hfi, q1_part hR hV hb, q_3_noses hK hR hV, if_neg h3, h3, pq_bxk (show (2 : Nat) ≠ 0 by decide), pq_bxk (show (4 : Nat) ≠ 0 by decide), not_false_eq_true, not_true_eq_false, and_self, and_true, true_and, and_false, false_and, or_true, true_or, or_false, false_or, if_true, if_false, ↓reduceIte, Decidable.not_not, ne_eq, Int32.reduceLE, Int32.reduceLT, pq_nes, eq_self]
    rw [f_L_hidden, e]
    rfl
  · have e : f_X8_hiddenAgain rf x (Int32.ofNat b) σ = some (4, 0, σ) := by
      simp (disch := omega) only [f_X8_hiddenAgain, pq_bd, pq_ck, pq_bx, rc_lt, pq_i10, pq_i01, pq_x1 hX, pq_x2 hX, pq_x5 hX, pq_x6 hX, pq_x8 hX, pq_k0 hK, pq_k1 hK, pq_k3 hK, pq_k4 hK, pq_kp hK, pq_ks hK, f_X8_unnoticed, f_X1_mostHailFor, f_X0_room, hfi, q1_part hR hV hb, q_3_noses hK hR hV, if_neg h3, h3, pq_bxk (show (2 : Nat) ≠ 0 by decide), pq_bxk (show (4 : Nat) ≠ 0 by decide), not_false_eq_true, not_true_eq_false, and_self, and_true, true_and, and_false, false_and, or_true, true_or, or_false, false_or, if_true, if_false, ↓reduceIte, Decidable.not_not, ne_eq, Int32.reduceLE, Int32.reduceLT, pq_nes, eq_self]
    rw [f_L_hiddenAgain, e]
    rfl
theorem ql_hidE (hX : pq_X rf x) (hR : pq_R σ (x + 2) g n p) (hV : pq_V g n p N) (hb : b < n) (h2 : g (16 + 6 * b) = 0) : f_L_hidden rf z x (Int32.ofNat b) σ = some (-75, σ) := by
  have hK := pq_xk hX
  have h8 := pq_vn hV
  have h4 := pq_vp hV
  have h1 := pb_u hV hb
  have e : f_X8_hidden rf x (Int32.ofNat b) σ = some (4, 0, σ) := by
    simp (disch := omega) only [f_X8_hidden, pq_bd, pq_ck, pq_bx, rc_lt, pq_i10, pq_i01, pq_x1 hX, pq_x2 hX, pq_x5 hX, pq_x6 hX, pq_x8 hX, pq_k0 hK, pq_k1 hK, pq_k3 hK, pq_k4 hK, pq_kp hK, pq_ks hK, f_X8_unnoticed, f_X1_mostHailFor, f_X0_room, q8_fi hX hR hV hb h1, h2, pq_bxk (show (2 : Nat) ≠ 0 by decide), pq_bxk (show (4 : Nat) ≠ 0 by decide), not_false_eq_true, not_true_eq_false, and_self, and_true, true_and, and_false, false_and, or_true, true_or, or_false, false_or, if_true, if_false, ↓reduceIte, Decidable.not_not, ne_eq, Int32.reduceLE, Int32.reduceLT, pq_nes, eq_self]
  rw [f_L_hidden, e]
  rfl
theorem pb_9 (h1 : 1 ≤ j) (h9 : j ≤ 9) : ¬ Int32.ofNat j < 1 ∧ ¬ 9 < Int32.ofNat j := ⟨fun q => by have := (pq_lt (m := 1) (by omega) (by decide)).mp q; omega, fun q => by have := (pq_lt (n := 9) (by decide) (by omega)).mp q; omega⟩
theorem qf_catch (hX : pq_X rf x) (hR : pq_R σ (x + 2) g n p) (hV : pq_V g n p N) (s1 : 1 ≤ j) (s9 : j ≤ 9) : f_X8_wouldCatch rf x (Int32.ofNat j) σ = some (0, pq_cg g n (Int32.ofNat j) 0 + pq_cg g n (Int32.ofNat j) 1 + pq_cg g n (Int32.ofNat j) 2 + pq_cg g n (Int32.ofNat j) 3, σ) := by
  have hK := pq_xk hX
  have h8 := pq_vn hV
  have h4 := pq_vp hV
  have h1 := pb_9 s1 s9
  simp (disch := omega) only [f_X8_wouldCatch, pq_bd, pq_ck, pq_bx, rc_lt, pq_i10, pq_i01, pq_x1 hX, pq_x2 hX, pq_x5 hX, pq_x6 hX, pq_x8 hX, pq_k0 hK, pq_k1 hK, pq_k3 hK, pq_k4 hK, pq_kp hK, pq_ks hK, q8_out, q1_catch hK hR hV, q8_allRoofs, if_pos h1, not_false_eq_true, not_true_eq_false, and_self, and_true, true_and, and_false, false_and, or_true, true_or, or_false, false_or, if_true, if_false, ↓reduceIte, Decidable.not_not, ne_eq, Int32.reduceLE, Int32.reduceLT, pq_nes, eq_self]
theorem ql_catch (hX : pq_X rf x) (hR : pq_R σ (x + 2) g n p) (hV : pq_V g n p N) (s1 : 1 ≤ j) (s9 : j ≤ 9) : f_L_wouldCatch rf z x (Int32.ofNat j) σ = some (pq_cg g n (Int32.ofNat j) 0 + pq_cg g n (Int32.ofNat j) 1 + pq_cg g n (Int32.ofNat j) 2 + pq_cg g n (Int32.ofNat j) 3, σ) := by
  rw [f_L_wouldCatch, qf_catch hX hR hV s1 s9]
  first | rfl | (simp only [rc_tr, rc_mz]; rfl)
theorem qf_lose (hX : pq_X rf x) (hR : pq_R σ (x + 2) g n p) (hV : pq_V g n p N) (s1 : 1 ≤ j) (s9 : j ≤ 9) : f_X8_wouldLose rf x (Int32.ofNat j) σ = some (0, 10 * Int32.ofNat j - (pq_cg g n (Int32.ofNat j) 0 + pq_cg g n (Int32.ofNat j) 1 + pq_cg g n (Int32.ofNat j) 2 + pq_cg g n (Int32.ofNat j) 3), σ) := by
  have hK := pq_xk hX
  have h8 := pq_vn hV
  have h4 := pq_vp hV
  have h1 := pb_9 s1 s9
  simp (disch := omega) only [f_X8_wouldLose, pq_bd, pq_ck, pq_bx, rc_lt, pq_i10, pq_i01, pq_x1 hX, pq_x2 hX, pq_x5 hX, pq_x6 hX, pq_x8 hX, pq_k0 hK, pq_k1 hK, pq_k3 hK, pq_k4 hK, pq_kp hK, pq_ks hK, q8_out, q1_catch hK hR hV, q8_allRoofs, if_pos h1, not_false_eq_true, not_true_eq_false, and_self, and_true, true_and, and_false, false_and, or_true, true_or, or_false, false_or, if_true, if_false, ↓reduceIte, Decidable.not_not, ne_eq, Int32.reduceLE, Int32.reduceLT, pq_nes, eq_self]
theorem ql_lose (hX : pq_X rf x) (hR : pq_R σ (x + 2) g n p) (hV : pq_V g n p N) (s1 : 1 ≤ j) (s9 : j ≤ 9) : f_L_wouldLose rf z x (Int32.ofNat j) σ = some (10 * Int32.ofNat j - (pq_cg g n (Int32.ofNat j) 0 + pq_cg g n (Int32.ofNat j) 1 + pq_cg g n (Int32.ofNat j) 2 + pq_cg g n (Int32.ofNat j) 3), σ) := by
  rw [f_L_wouldLose, qf_lose hX hR hV s1 s9]
  first | rfl | (simp only [rc_tr, rc_mz]; rfl)
theorem ql_line0 (hX : pq_X rf x) (hR : pq_R σ (x + 2) g n p) (hV : pq_V g n p N) {L0 : List Nat} (hOC : pq_OC σ x L0) (hb : b < n) (h2 : g (16 + 6 * b) = 0) : ∃ σ' L, f_L_line rf z x (Int32.ofNat b) σ = some (3, σ') ∧ (∀ a, a ≠ x + 306 → a ≠ x + 307 → σ' a = σ a) ∧ pq_OC σ' x L := by
  have hK := pq_xk hX
  have h8 := pq_vn hV
  have h4 := pq_vp hV
  have h1 := pb_u hV hb
  obtain ⟨Ro, a4, q15⟩ := pq_rN hV hb
  have ve := pq_ve hV hb h2
  have h15 := pq_b0 hR hb
  have h16 := pq_b1 hR hb
  have h17 := pq_b2 hR hb
  rw [q15] at h15
  rw [h2, show (0 : Int32) = Int32.ofNat 0 from rfl] at h16
  rw [ve.1] at h17
  have l1 := (pq_dgl Ro).2.2 (by omega)
  obtain ⟨s0, e0, o0, f0⟩ := qs_len0 hX hOC
  have F0 : ∀ a, a ≠ x + 306 → a ≠ x + 307 → s0 a = σ a := fun a a1 a2 => f0 a a1
  obtain ⟨s1, e1, o1, f1⟩ := qs_nm hX o0 (v := Ro) (by omega) (by simp only [List.length_append, List.length_cons, List.length_nil]; omega)
  have F1 : ∀ a, a ≠ x + 306 → a ≠ x + 307 → s1 a = σ a := fun a a1 a2 => by rw [f1 a a1 a2, F0 a a1 a2]
  obtain ⟨s2, e2, o2, f2⟩ := qs_ch hX o1 (by simp only [List.length_append, List.length_cons, List.length_nil]; omega) 58 (by omega)
  rw [show Int32.ofNat 58 = (58 : Int32) from rfl] at e2
  have F2 : ∀ a, a ≠ x + 306 → a ≠ x + 307 → s2 a = σ a := fun a a1 a2 => by rw [f2 a a1 a2, F1 a a1 a2]
  obtain ⟨s3, e3, o3, f3⟩ := qs_nm hX o2 (v := 0) (by omega) (by simp only [List.length_append, List.length_cons, List.length_nil]; have := (pq_dgl 0).2.2 (by omega); omega)
  have F3 : ∀ a, a ≠ x + 306 → a ≠ x + 307 → s3 a = σ a := fun a a1 a2 => by rw [f3 a a1 a2, F2 a a1 a2]
  have R0_0 : s0 (x + 2 + 7 + b) 0 = Int32.ofNat Ro := by rw [F0 _ (by omega) (by omega)]; exact h15
  have R2_1 : s2 (x + 2 + 7 + b) 1 = Int32.ofNat 0 := by rw [F2 _ (by omega) (by omega)]; exact h16
  have R3_1 : s3 (x + 2 + 7 + b) 1 = Int32.ofNat 0 := by rw [F3 _ (by omega) (by omega)]; exact h16
  have R3_2 : s3 (x + 2 + 7 + b) 2 = 0 := by rw [F3 _ (by omega) (by omega)]; exact h17
  have hLi : (Int32.ofNat 0 = 0) = True := eq_true rfl
  have hHa : ((0 : Int32) ≤ 0) = True := eq_true (Int32.le_refl _)
  have hlen : (([] : List Nat) ++ pq_dg Ro ++ [58] ++ pq_dg 0).length = 3 := by
    simp only [List.length_append, List.length_cons, List.length_nil, l1, (pq_dgl 0).2.2 (by omega)]
  have e : f_X8_line rf x (Int32.ofNat b) σ = some (0, Int32.ofNat 3, s3) := by
    rw [f_X8_line, q8_ex hX hR hV hb h1, pq_bx, pq_x8 hX, e0, pq_bd]
    simp only [R0_0, e1, pq_bd, e2, R2_1, e3, q0_empty, R3_1, pq_i10, hLi]
    simp only [not_true_eq_false, if_false, R3_2, hHa, if_true, qs_lng o3, pq_bd, hlen]
  refine ⟨s3, _, ?_, F3, o3⟩
  rw [f_L_line, e]
  rfl
def pb_pt (g : Nat → Int32) (p : Nat) : List Nat := (List.range' 0 p).flatMap (pq_tk g)
theorem qf_pan (hX : pq_X rf x) (hR : pq_R σ (x + 2) g n p) (hV : pq_V g n p N) {L0 : List Nat} (hOC : pq_OC σ x L0) : ∃ σ', f_X8_panel rf x σ = some (Int32.ofNat (pb_pt g p).length, σ') ∧ (∀ a, a ≠ x + 306 → a ≠ x + 307 → σ' a = σ a) ∧ pq_OC σ' x (pb_pt g p) := by
  have hK := pq_xk hX
  have h8 := pq_vn hV
  have h4 := pq_vp hV
  obtain ⟨s0, e0, o0, f0⟩ := qs_len0 hX hOC
  obtain ⟨s1, L1, e1, o1, l1, f1⟩ := q8_pan hX hV (fun v1_25 σ_26 => rc_bd (f_J4_length_8abf5 rf (rf x 8) σ_26) fun w_27 σ_27 => some (w_27, σ_27)) p (99999 - p) 0 s0 [] (by omega) (pq_Rf hR h8 (fun a _ _ => f0 a (by omega))) o0 (by simp)
  rw [← pq_fu p (by omega)] at e1
  rw [List.nil_append] at l1
  have l2 : L1 = pb_pt g p := l1
  subst l2
  refine ⟨s1, ?_, fun a a1 a2 => by rw [f1 a a1 a2, f0 a a1], o1⟩
  rw [f_X8_panel, pq_x8 hX, e0, pq_bd]
  rw [pq_x8 hX] at e1
  refine Eq.trans e1 ?_
  rw [qs_lng o1, pq_bd]
theorem ql_chr (hX : pq_X rf x) {L : List Nat} (hOC : pq_OC σ x L) {k v : Nat} (hv : L[k]? = some v) : f_L_character rf z x (Int32.ofNat k) σ = some (Int32.ofNat v, σ) := by
  have hl := hOC.2.2.1
  have hk : k < L.length := (List.getElem?_eq_some_iff.mp hv).1
  have c1 := hOC.2.2.2 k v hv
  have c3 := qs_v1 v c1.1
  have n0 : ¬ Int32.ofNat k < 0 := pb_n0 (by omega)
  have n1 : Int32.ofNat k < Int32.ofNat L.length := (pq_lt (by omega) (by omega)).mpr hk
  have hz : 0 ≤ Int32.ofNat L.length := Int32.zero_le_ofNat_of_lt (by omega)
  have h1 : ¬ Int32.ofNat k < 0 ∧ ¬ Int32.ofNat L.length - 1 < Int32.ofNat k := ⟨n0, fun q => absurd ((pq_g1 _ _ hz).mp q) (Int32.not_le.mpr n1)⟩
  have n2 : (if (16 : Int32) >>> ((0 : Int32) &&& 31) < Int32.ofNat L.length then (16 : Int32) >>> ((0 : Int32) &&& 31) else Int32.ofNat L.length) = Int32.ofNat L.length := by
    rw [show (16 : Int32) >>> ((0 : Int32) &&& 31) = 16 from by decide, if_neg]
    intro q
    have := (pq_lt (n := 16) (by decide) (by omega)).mp q
    omega
  have e : f_X8_character rf x (Int32.ofNat k) σ = some (0, Int32.ofNat v, σ) := by
    rw [f_X8_character, pq_x8 hX, qs_lng hOC, pq_bd, q8_out, pq_bd, if_pos h1, if_pos rfl, f_J4_charAt_5068e, f_J5_charAt_5068e, rc_lt, rc_lt, hOC.1, hOC.2.1, n2, f_J0_checkIndex_df160, f_J3_checkIndex_8e157, if_neg n0, if_pos n1, pq_bd, pq_bd, if_pos rfl, pq_in (by omega) (by decide), pq_ck, pq_b hX, pq_cl (by omega), c1.2, c3.1, c3.2.2, pq_cd rfl, pq_bd, c3.2.2, pq_cd rfl, pq_bd, c3.2.2, pq_cd rfl]
  rw [f_L_character, e]
  rfl
end PAQ
