/-! THE TEN CHANGES, the class alone: refused, or done as Φ says -/
def pa_Op (x : Nat) (A : rc_S → Option (Int32 × rc_S)) (Ψ : Prop) (Φ : (Nat → Int32) → Nat → Nat → Int32 → (Nat → Int32) → Nat → Nat → Prop) : Prop := ∀ (σ : rc_S) (n p Bd : Nat) (g : Nat → Int32), pq_R σ (x + 2) g n p → pq_V g n p Bd → Bd ≤ 890 →
  (∃ code det, Ψ ∧ A σ = some (-1, rc_up (rc_up (rc_up σ (x + 29) 0 code) (x + 29) 1 det) (x + 29) 2 0)) ∨
  (∃ v σ' g' n' p', 0 ≤ v.toInt ∧ A σ = some (v, σ') ∧ (∀ a, (a < x + 2 ∨ x + 29 ≤ a) → σ' a = σ a) ∧ pq_R σ' (x + 2) g' n' p' ∧ pq_V g' n' p' (Bd + 1) ∧ Φ g n p v g' n' p')
theorem pa_nnN {v : Nat} (h : v < 2147483648) : 0 ≤ (Int32.ofNat v).toInt := by rw [pq_ti h]; omega
theorem q9_k1 {K : Nat} (h : 0 < K) : Int32.ofNat K - 1 = Int32.ofNat (K - 1) := by rw [Int32.ofNat_sub _ _ h]; rfl
section PAOP
variable {rf : rc_F} {x : Nat}
theorem pa_clear (hX : pq_X rf x) {u : Int32} : pa_Op x (f_X7_clearRoof rf (x + 1) u) (True) (fun g n p v g' n' p' => ∃ i, i < 4 ∧ u = Int32.ofNat i ∧ v = g (11 + i) ∧ g' = upd g (11 + i) 0 ∧ n' = n ∧ p' = p) := by
  intro σ n p Bd g hR hV hB9
  have hB : Bd ≤ 900 := by omega
  have hK := pq_xk hX
  have h8 := pq_vn hV
  have h4 := pq_vp hV
  have hS := pq_RS hR h8 h4
  by_cases h1 : ¬ u < 0 ∧ ¬ 3 < u
  · obtain ⟨i, hi, rfl⟩ := pq_4b h1
    by_cases h2 : g (11 + i) = 0
    · refine Or.inl ⟨12, Int32.ofNat i, trivial, ?_⟩
      · simp (disch := omega) only [f_X7_clearRoof, q8_out, q5_bec, pq_w0 hX, pq_w1 hX, pq_k0 hK, pq_k1 hK, pq_k3 hK, pq_k4 hK, pq_kp hK, pq_ks hK, pq_bd, pq_ck, pq_bx, rc_lt, pq_i10, pq_i01, not_false_eq_true, not_true_eq_false, and_self, and_true, true_and, and_false, false_and, or_true, true_or, or_false, false_or, if_true, if_false, ↓reduceIte, Decidable.not_not, ne_eq, Int32.reduceLE, Int32.reduceLT, pq_nes, eq_self, pq_in, pq_cl, h1, pq_cm hR, h2]
    · refine Or.inr ⟨g (11 + i), rc_up σ (x + 2 + 1) i 0, upd g (11 + i) 0, n, p, id (pq_vm hV hi).1, ?_, fun a ha => pq_upN (by omega), pq_SR (pq_Sm hS hi 0) h8 h4 (fun j hj hl => Or.inl hl), ?_, ⟨i, hi, rfl, rfl, rfl, rfl, rfl⟩⟩
      · simp (disch := omega) only [f_X7_clearRoof, q8_out, q5_bec, pq_w0 hX, pq_w1 hX, pq_k0 hK, pq_k1 hK, pq_k3 hK, pq_k4 hK, pq_kp hK, pq_ks hK, pq_bd, pq_ck, pq_bx, rc_lt, pq_i10, pq_i01, not_false_eq_true, not_true_eq_false, and_self, and_true, true_and, and_false, false_and, or_true, true_or, or_false, false_or, if_true, if_false, ↓reduceIte, Decidable.not_not, ne_eq, Int32.reduceLE, Int32.reduceLT, pq_nes, eq_self, pq_in, pq_cl, h1, pq_cm hR, h2]
      · refine pq_Vn hV ⟨by rw [pq_udN (by omega)]; exact pq_v0 hV, h8⟩ ⟨by rw [pq_udN (by omega)]; exact pq_v1 hV, h4⟩ (Or.inl (pq_udN (by omega))) (Or.inl (pq_udN (by omega))) (Or.inl (pq_udN (by omega))) (fun r hr => ?_) (fun b hb => Or.inl ⟨hb, fun k hk => pq_udN (by omega)⟩) (fun j hj => Or.inl ⟨hj, pq_udN (by omega), pq_udN (by omega)⟩)
        by_cases e : r = i
        · subst e; rw [pq_udE]; exact Or.inr (by decide)
        · exact Or.inl (pq_udN (by omega))
  · refine Or.inl ⟨1, 0, trivial, ?_⟩
    · simp (disch := omega) only [f_X7_clearRoof, q8_out, q5_bec, pq_w0 hX, pq_w1 hX, pq_k0 hK, pq_k1 hK, pq_k3 hK, pq_k4 hK, pq_kp hK, pq_ks hK, pq_bd, pq_ck, pq_bx, rc_lt, pq_i10, pq_i01, not_false_eq_true, not_true_eq_false, and_self, and_true, true_and, and_false, false_and, or_true, true_or, or_false, false_or, if_true, if_false, ↓reduceIte, Decidable.not_not, ne_eq, Int32.reduceLE, Int32.reduceLT, pq_nes, eq_self, pq_in, pq_cl, if_neg h1]
theorem pa_join (hX : pq_X rf x) {u s : Int32} (hs : s = 0 ∨ s = 1) : pa_Op x (f_X7_letCome rf (x + 1) u s) (True) (fun g n p v g' n' p' => p < 4 ∧ v = Int32.ofNat p ∧ g' = upd (upd (upd g (63 + 2 * p) u) (64 + 2 * p) s) 1 (Int32.ofNat (p + 1)) ∧ n' = n ∧ p' = p + 1) := by
  intro σ n p Bd g hR hV hB9
  have hB : Bd ≤ 900 := by omega
  have hK := pq_xk hX
  have h8 := pq_vn hV
  have h4 := pq_vp hV
  have hS := pq_RS hR h8 h4
  by_cases h1 : ¬ u < 0 ∧ ¬ 9 < u
  · by_cases h2 : p = 4
    · subst h2
      have c1 : (Int32.ofNat 4 < 4) = False := by decide
      have c2 : (Int32.ofNat 4 = 4) = True := by decide
      refine Or.inl ⟨2, 4, trivial, ?_⟩
      · simp (disch := omega) only [f_X7_letCome, f_X3_add, q8_out, q5_bec, pq_w0 hX, pq_w1 hX, pq_k0 hK, pq_k1 hK, pq_k3 hK, pq_k4 hK, pq_kp hK, pq_ks hK, pq_bd, pq_ck, pq_bx, rc_lt, pq_i10, pq_i01, not_false_eq_true, not_true_eq_false, and_self, and_true, true_and, and_false, false_and, or_true, true_or, or_false, false_or, if_true, if_false, ↓reduceIte, Decidable.not_not, ne_eq, Int32.reduceLE, Int32.reduceLT, pq_nes, eq_self, pq_c1 hR, pq_v1 hV, h1, c1]
    · have c1 : (Int32.ofNat p < 4) = True := eq_true ((pq_lt (m := 4) (by omega) (by decide)).mpr (by omega))
      have c2 : (Int32.ofNat p = 4) = False := eq_false (fun q => h2 ((pq_eq (m := 4) (by omega) (by decide)).mp q))
      have hu : 0 ≤ u.toInt ∧ u.toInt ≤ 9 := by
        have a1 := h1.1
        have a2 := h1.2
        rw [Int32.lt_iff_toInt_lt] at a1 a2
        exact ⟨Int.not_lt.mp a1, Int.not_lt.mp a2⟩
      refine Or.inr ⟨Int32.ofNat p, rc_up (rc_up (rc_up σ (x + 2 + 4) p u) (x + 2 + 5) p s) (x + 2 + 3) 2 (Int32.ofNat (p + 1)), upd (upd (upd g (63 + 2 * p) u) (64 + 2 * p) s) 1 (Int32.ofNat (p + 1)), n, p + 1, pa_nnN (by omega), ?_, fun a ha => by rw [pq_upN (by omega), pq_upN (by omega), pq_upN (by omega)], pq_SR (pq_Sc1 (pq_Sps (pq_Spp hS (by omega) u) (by omega) s) _) h8 (by omega) (fun j hj hl => ?_), ?_, ⟨by omega, rfl, rfl, rfl, rfl⟩⟩
      · simp (disch := omega) only [f_X7_letCome, f_X3_add, q8_out, q5_bec, pq_w0 hX, pq_w1 hX, pq_k0 hK, pq_k1 hK, pq_k3 hK, pq_k4 hK, pq_kp hK, pq_ks hK, pq_bd, pq_ck, pq_bx, rc_lt, pq_i10, pq_i01, not_false_eq_true, not_true_eq_false, and_self, and_true, true_and, and_false, false_and, or_true, true_or, or_false, false_or, if_true, if_false, ↓reduceIte, Decidable.not_not, ne_eq, Int32.reduceLE, Int32.reduceLT, pq_nes, eq_self, pq_c1 hR, pq_v1 hV, h1, c1, pq_in, pq_cl, pq_upN, pq_nb01 hs, pq_s, pq_upE, pq_udE]
        rw [show Int32.ofNat (p + 1) - 1 = Int32.ofNat p from by rw [← pq_s, Int32.add_sub_cancel]]
      · unfold pq_lv at hl ⊢; omega
      · refine pq_Vn hV ⟨by rw [pq_udN (by omega), pq_udN (by omega), pq_udN (by omega)]; exact pq_v0 hV, h8⟩ ⟨pq_udE, by omega⟩ (Or.inl (by rw [pq_udN (by omega), pq_udN (by omega), pq_udN (by omega)])) (Or.inl (by rw [pq_udN (by omega), pq_udN (by omega), pq_udN (by omega)])) (Or.inl (by rw [pq_udN (by omega), pq_udN (by omega), pq_udN (by omega)])) (fun r hr => Or.inl (by rw [pq_udN (by omega), pq_udN (by omega), pq_udN (by omega)])) (fun b hb => Or.inl ⟨hb, fun k hk => by rw [pq_udN (by omega), pq_udN (by omega), pq_udN (by omega)]⟩) (fun j hj => ?_)
        by_cases e : j = p
        · subst e
          refine Or.inr ⟨?_, ?_⟩
          · rw [pq_udN (by omega), pq_udN (by omega), pq_udE]; exact hu
          · rw [pq_udN (by omega), pq_udE]; exact hs
        · exact Or.inl ⟨by omega, by rw [pq_udN (by omega), pq_udN (by omega), pq_udN (by omega)], by rw [pq_udN (by omega), pq_udN (by omega), pq_udN (by omega)]⟩
  · refine Or.inl ⟨1, 0, trivial, ?_⟩
    · simp (disch := omega) only [f_X7_letCome, f_X3_add, q8_out, q5_bec, pq_w0 hX, pq_w1 hX, pq_k0 hK, pq_k1 hK, pq_k3 hK, pq_k4 hK, pq_kp hK, pq_ks hK, pq_bd, pq_ck, pq_bx, rc_lt, pq_i10, pq_i01, not_false_eq_true, not_true_eq_false, and_self, and_true, true_and, and_false, false_and, or_true, true_or, or_false, false_or, if_true, if_false, ↓reduceIte, Decidable.not_not, ne_eq, Int32.reduceLE, Int32.reduceLT, pq_nes, eq_self, pq_c1 hR, pq_v1 hV, if_neg h1]
theorem pa_place (hX : pq_X rf x) {u : Int32} : pa_Op x (f_X7_placeBarrel rf (x + 1) u) (True) (fun g n p v g' n' p' => n < 8 ∧ (0 ≤ u.toInt ∧ u.toInt ≤ 3) ∧ v = Int32.ofNat n ∧ g' = upd (upd (upd (upd (upd (upd (upd g (16 + 6 * n) 0) (17 + 6 * n) 0) (18 + 6 * n) (-1)) (20 + 6 * n) 0) (19 + 6 * n) 0) (15 + 6 * n) u) 0 (Int32.ofNat (n + 1)) ∧ n' = n + 1 ∧ p' = p) := by
  intro σ n p Bd g hR hV hB9
  have hB : Bd ≤ 900 := by omega
  have hK := pq_xk hX
  have h8 := pq_vn hV
  have h4 := pq_vp hV
  have hS := pq_RS hR h8 h4
  by_cases h1 : ¬ u < 0 ∧ ¬ 3 < u
  · by_cases h2 : n = 8
    · subst h2
      have c1 : (Int32.ofNat 8 < 8) = False := by decide
      have c2 : (Int32.ofNat 8 = 8) = True := by decide
      refine Or.inl ⟨2, 8, trivial, ?_⟩
      · simp (disch := omega) only [f_X7_placeBarrel, f_X1_addBarrel, f_X0_makeEmpty, q8_out, q5_bec, pq_w0 hX, pq_w1 hX, pq_k0 hK, pq_k1 hK, pq_k3 hK, pq_k4 hK, pq_kp hK, pq_ks hK, pq_bd, pq_ck, pq_bx, rc_lt, pq_i10, pq_i01, not_false_eq_true, not_true_eq_false, and_self, and_true, true_and, and_false, false_and, or_true, true_or, or_false, false_or, if_true, if_false, ↓reduceIte, Decidable.not_not, ne_eq, Int32.reduceLE, Int32.reduceLT, pq_nes, eq_self, pq_c0 hR, pq_v0 hV, h1, c1]
    · have c1 : (Int32.ofNat n < 8) = True := eq_true ((pq_lt (m := 8) (by omega) (by decide)).mpr (by omega))
      have c2 : (Int32.ofNat n = 8) = False := eq_false (fun q => h2 ((pq_eq (m := 8) (by omega) (by decide)).mp q))
      have hu : 0 ≤ u.toInt ∧ u.toInt ≤ 3 := by
        have a1 := h1.1
        have a2 := h1.2
        rw [Int32.lt_iff_toInt_lt] at a1 a2
        exact ⟨Int.not_lt.mp a1, Int.not_lt.mp a2⟩
      refine Or.inr ⟨Int32.ofNat n, rc_up (rc_up (rc_up (rc_up (rc_up (rc_up (rc_up σ (x + 2 + 7 + n) 1 0) (x + 2 + 7 + n) 2 0) (x + 2 + 7 + n) 3 (-1)) (x + 2 + 7 + n) 4 0) (x + 2 + 7 + n) 5 0) (x + 2 + 7 + n) 0 u) (x + 2) 2 (Int32.ofNat (n + 1)), upd (upd (upd (upd (upd (upd (upd g (16 + 6 * n) 0) (17 + 6 * n) 0) (18 + 6 * n) (-1)) (20 + 6 * n) 0) (19 + 6 * n) 0) (15 + 6 * n) u) 0 (Int32.ofNat (n + 1)), n + 1, p, pa_nnN (by omega), ?_, fun a ha => by simp (disch := omega) only [pq_upN], pq_SR (pq_Sc0 (pq_Sb0 (pq_Sb4 (pq_Sb5 (pq_Sb3 (pq_Sb2 (pq_Sb1 hS (by omega) 0) (by omega) 0) (by omega) (-1)) (by omega) 0) (by omega) 0) (by omega) u) _) (by omega) h4 (fun j hj hl => ?_), ?_, ⟨by omega, hu, rfl, rfl, rfl, rfl⟩⟩
      · simp (disch := omega) only [f_X7_placeBarrel, f_X1_addBarrel, f_X0_makeEmpty, q8_out, q5_bec, pq_w0 hX, pq_w1 hX, pq_k0 hK, pq_k1 hK, pq_k3 hK, pq_k4 hK, pq_kp hK, pq_ks hK, pq_bd, pq_ck, pq_bx, rc_lt, pq_i10, pq_i01, not_false_eq_true, not_true_eq_false, and_self, and_true, true_and, and_false, false_and, or_true, true_or, or_false, false_or, if_true, if_false, ↓reduceIte, Decidable.not_not, ne_eq, Int32.reduceLE, Int32.reduceLT, pq_nes, eq_self, pq_c0 hR, pq_v0 hV, h1, c1, pq_in, pq_cl, pq_kb hK, pq_upN, pq_s, pq_upE, pq_udE]
        rw [show Int32.ofNat (n + 1) - 1 = Int32.ofNat n from by rw [← pq_s, Int32.add_sub_cancel]]
      · unfold pq_lv at hl ⊢; omega
      · refine pq_Vn hV ⟨pq_udE, by omega⟩ ⟨by simp (disch := omega) only [pq_udN]; exact pq_v1 hV, h4⟩ (Or.inl (by simp (disch := omega) only [pq_udN])) (Or.inl (by simp (disch := omega) only [pq_udN])) (Or.inl (by simp (disch := omega) only [pq_udN])) (fun r hr => Or.inl (by simp (disch := omega) only [pq_udN])) (fun b hb => ?_) (fun j hj => Or.inl ⟨hj, by simp (disch := omega) only [pq_udN], by simp (disch := omega) only [pq_udN]⟩)
        by_cases e : b = n
        · subst e
          refine Or.inr ?_
          simp (disch := omega) only [pq_udN, pq_udE]
          exact ⟨hu, by decide, ⟨by decide, by rw [show (-1 : Int32).toInt = -1 from rfl]; omega⟩, by decide, ⟨by decide, by have := pq_v3 hV; rw [Int32.toInt_zero]; omega⟩, fun _ => ⟨rfl, rfl, rfl, rfl⟩, fun q => absurd rfl q⟩
        · exact Or.inl ⟨by omega, fun k hk => by simp (disch := omega) only [pq_udN]⟩
  · refine Or.inl ⟨1, 0, trivial, ?_⟩
    · simp (disch := omega) only [f_X7_placeBarrel, f_X1_addBarrel, f_X0_makeEmpty, q8_out, q5_bec, pq_w0 hX, pq_w1 hX, pq_k0 hK, pq_k1 hK, pq_k3 hK, pq_k4 hK, pq_kp hK, pq_ks hK, pq_bd, pq_ck, pq_bx, rc_lt, pq_i10, pq_i01, not_false_eq_true, not_true_eq_false, and_self, and_true, true_and, and_false, false_and, or_true, true_or, or_false, false_or, if_true, if_false, ↓reduceIte, Decidable.not_not, ne_eq, Int32.reduceLE, Int32.reduceLT, pq_nes, eq_self, pq_c0 hR, pq_v0 hV, if_neg h1]
theorem pa_hail (hX : pq_X rf x) {u k : Int32} : pa_Op x (f_X7_adulterate rf (x + 1) u k) (True) (fun g n p v g' n' p' => ∃ b k, b < n ∧ 1 ≤ k ∧ k ≤ 9 ∧ g (16 + 6 * b) ≠ 0 ∧ Int32.ofNat k ≤ g 2 ∧ Int32.ofNat k ≤ 20 - g (16 + 6 * b) ∧ g' = upd (upd (upd (upd g (16 + 6 * b) (g (16 + 6 * b) + Int32.ofNat k)) (17 + 6 * b) (g (17 + 6 * b) + Int32.ofNat k)) 2 (g 2 - Int32.ofNat k)) 6 (g 6 + Int32.ofNat k) ∧ n' = n ∧ p' = p) := by
  intro σ n p Bd g hR hV hB9
  have hB : Bd ≤ 900 := by omega
  have hK := pq_xk hX
  have h8 := pq_vn hV
  have h4 := pq_vp hV
  have hS := pq_RS hR h8 h4
  by_cases h1 : ¬ u < 0 ∧ u < g 0
  · obtain ⟨b, hb, rfl⟩ := pq_ub hV h1
    have hb8 : b < 8 := by omega
    obtain ⟨H, L, T, a1, a2, a3, e1, e2, e3⟩ := pq_bN hV hb
    obtain ⟨Bk, a4, e4⟩ := pq_natL (n := 9) (pq_v2 hV).1 (pq_v2 hV).2 (by decide)
    by_cases h2 : ¬ k < 1 ∧ ¬ 9 < k
    · obtain ⟨k, k1, k9, rfl⟩ := pq_9 h2
      by_cases h3 : g (16 + 6 * b) = 0
      · refine Or.inl ⟨6, 0, trivial, ?_⟩
        · simp (disch := omega) only [f_X7_adulterate, q1_has hR, q8_out, q5_bec, pq_kb hK, pq_b1 hR, pq_b2 hR, pq_b3 hR, q0_empty, f_X0_room, f_X0_isFreeFor, pq_w0 hX, pq_w1 hX, pq_k0 hK, pq_k1 hK, pq_k3 hK, pq_k4 hK, pq_kp hK, pq_ks hK, pq_bd, pq_ck, pq_bx, rc_lt, pq_i10, pq_i01, not_false_eq_true, not_true_eq_false, and_self, and_true, true_and, and_false, false_and, or_true, true_or, or_false, false_or, if_true, if_false, ↓reduceIte, Decidable.not_not, ne_eq, Int32.reduceLE, Int32.reduceLT, pq_nes, eq_self, pq_c0 hR, pq_c2 hR, pq_in, pq_cl, h1, h2, h3]
      · by_cases h4' : Int32.ofNat k ≤ g 2
        · by_cases h5 : Int32.ofNat k ≤ 20 - g (16 + 6 * b)
          · have z4 : k ≤ Bk := by rw [e4] at h4'; exact (pq_le (by omega) (by omega)).mp h4'
            have z5 : L + k ≤ 20 := by
              rw [e2, show (20 : Int32) - Int32.ofNat L = Int32.ofNat (20 - L) by rw [Int32.ofNat_sub _ _ a2]; rfl] at h5
              have := (pq_le (by omega) (by omega)).mp h5
              omega
            have eL : g (16 + 6 * b) + Int32.ofNat k = Int32.ofNat (L + k) := by rw [e2, Int32.ofNat_add]
            have eH : g (17 + 6 * b) + Int32.ofNat k = Int32.ofNat (H + k) := by rw [e1, Int32.ofNat_add]
            have eB : g 2 - Int32.ofNat k = Int32.ofNat (Bk - k) := by rw [e4, Int32.ofNat_sub _ _ z4]
            refine Or.inr ⟨pq_part (g (17 + 6 * b) + Int32.ofNat k) (g (16 + 6 * b) + Int32.ofNat k), rc_up (rc_up (rc_up (rc_up σ (x + 2 + 7 + b) 1 (g (16 + 6 * b) + Int32.ofNat k)) (x + 2 + 7 + b) 2 (g (17 + 6 * b) + Int32.ofNat k)) (x + 2) 6 (g 2 - Int32.ofNat k)) (x + 2) 9 (g 6 + Int32.ofNat k), upd (upd (upd (upd g (16 + 6 * b) (g (16 + 6 * b) + Int32.ofNat k)) (17 + 6 * b) (g (17 + 6 * b) + Int32.ofNat k)) 2 (g 2 - Int32.ofNat k)) 6 (g 6 + Int32.ofNat k), n, p, ?_, ?_, fun a ha => by simp (disch := omega) only [pq_upN], pq_SR (pq_Sc6 (pq_Sc2 (pq_Sb2 (pq_Sb1 hS hb8 _) hb8 _) _) _) h8 h4 (fun j hj hl => Or.inl (Or.inl (Or.inl (Or.inl hl)))), ?_, ⟨b, k, hb, k1, k9, h3, h4', h5, rfl, rfl, rfl⟩⟩
            · rw [eL, eH, pq_prN (by omega) (by omega)]
              have := pq_p100 (h := H + k) (l := L + k) (by omega)
              exact pa_nnN (by omega)
            · simp (disch := omega) only [f_X7_adulterate, q1_has hR, q8_out, q5_bec, pq_kb hK, pq_b1 hR, pq_b2 hR, pq_b3 hR, q0_empty, f_X0_room, f_X0_isFreeFor, pq_w0 hX, pq_w1 hX, pq_k0 hK, pq_k1 hK, pq_k3 hK, pq_k4 hK, pq_kp hK, pq_ks hK, pq_bd, pq_ck, pq_bx, rc_lt, pq_i10, pq_i01, not_false_eq_true, not_true_eq_false, and_self, and_true, true_and, and_false, false_and, or_true, true_or, or_false, false_or, if_true, if_false, ↓reduceIte, Decidable.not_not, ne_eq, Int32.reduceLE, Int32.reduceLT, pq_nes, eq_self, pq_c0 hR, pq_c2 hR, pq_in, pq_cl, h1, h2, h3, h4', h5, pq_upE, pq_udE, pq_udN, pq_upN, pq_c6 hR]
              rw [q0_part (by simp (disch := omega) only [pq_upE, pq_udE, pq_udN, pq_upN]; rw [eL, pq_ti (by omega)]; omega)]
              simp (disch := omega) only [pq_bd, pq_upE, pq_udE, pq_udN, pq_upN]
            · refine pq_Vn hV ⟨by simp (disch := omega) only [pq_udN]; exact pq_v0 hV, h8⟩ ⟨by simp (disch := omega) only [pq_udN]; exact pq_v1 hV, h4⟩ (Or.inr ?_) (Or.inl (by simp (disch := omega) only [pq_udN])) (Or.inl (by simp (disch := omega) only [pq_udN])) (fun r hr => Or.inl (by simp (disch := omega) only [pq_udN])) (fun b' hb' => ?_) (fun j hj => Or.inl ⟨hj, by simp (disch := omega) only [pq_udN], by simp (disch := omega) only [pq_udN]⟩)
              · simp (disch := omega) only [pq_udN, pq_udE]
                rw [eB, pq_ti (by omega)]; omega
              · by_cases e : b' = b
                · subst e
                  have z := pq_VB hV hb
                  refine Or.inr ?_
                  simp (disch := omega) only [pq_udN, pq_udE]
                  rw [eL, eH]
                  refine ⟨z.1, ⟨by rw [pq_ti (by omega)]; omega, by rw [pq_ti (by omega), pq_ti (by omega)]; omega, by rw [pq_ti (by omega)]; omega⟩, ⟨z.2.2.1.1, by have := z.2.2.1.2; omega⟩, z.2.2.2.1, z.2.2.2.2.1, fun q => ?_, fun _ => z.2.2.2.2.2.2 h3⟩
                  have := (pq_eq (by omega) (show 0 < 2147483648 by decide)).mp q
                  omega
                · exact Or.inl ⟨hb', fun k hk => by simp (disch := omega) only [pq_udN]⟩
          · refine Or.inl ⟨7, 20 - g (16 + 6 * b), trivial, ?_⟩
            · simp (disch := omega) only [f_X7_adulterate, q1_has hR, q8_out, q5_bec, pq_kb hK, pq_b1 hR, pq_b2 hR, pq_b3 hR, q0_empty, f_X0_room, f_X0_isFreeFor, pq_w0 hX, pq_w1 hX, pq_k0 hK, pq_k1 hK, pq_k3 hK, pq_k4 hK, pq_kp hK, pq_ks hK, pq_bd, pq_ck, pq_bx, rc_lt, pq_i10, pq_i01, not_false_eq_true, not_true_eq_false, and_self, and_true, true_and, and_false, false_and, or_true, true_or, or_false, false_or, if_true, if_false, ↓reduceIte, Decidable.not_not, ne_eq, Int32.reduceLE, Int32.reduceLT, pq_nes, eq_self, pq_c0 hR, pq_c2 hR, pq_in, pq_cl, h1, h2, h3, h4', h5]
        · refine Or.inl ⟨10, g 2, trivial, ?_⟩
          · simp (disch := omega) only [f_X7_adulterate, q1_has hR, q8_out, q5_bec, pq_kb hK, pq_b1 hR, pq_b2 hR, pq_b3 hR, q0_empty, f_X0_room, f_X0_isFreeFor, pq_w0 hX, pq_w1 hX, pq_k0 hK, pq_k1 hK, pq_k3 hK, pq_k4 hK, pq_kp hK, pq_ks hK, pq_bd, pq_ck, pq_bx, rc_lt, pq_i10, pq_i01, not_false_eq_true, not_true_eq_false, and_self, and_true, true_and, and_false, false_and, or_true, true_or, or_false, false_or, if_true, if_false, ↓reduceIte, Decidable.not_not, ne_eq, Int32.reduceLE, Int32.reduceLT, pq_nes, eq_self, pq_c0 hR, pq_c2 hR, pq_in, pq_cl, h1, h2, h3, h4']
    · refine Or.inl ⟨1, 0, trivial, ?_⟩
      · simp (disch := omega) only [f_X7_adulterate, q1_has hR, q8_out, q5_bec, pq_kb hK, pq_b1 hR, pq_b2 hR, pq_b3 hR, q0_empty, f_X0_room, f_X0_isFreeFor, pq_w0 hX, pq_w1 hX, pq_k0 hK, pq_k1 hK, pq_k3 hK, pq_k4 hK, pq_kp hK, pq_ks hK, pq_bd, pq_ck, pq_bx, rc_lt, pq_i10, pq_i01, not_false_eq_true, not_true_eq_false, and_self, and_true, true_and, and_false, false_and, or_true, true_or, or_false, false_or, if_true, if_false, ↓reduceIte, Decidable.not_not, ne_eq, Int32.reduceLE, Int32.reduceLT, pq_nes, eq_self, pq_c0 hR, pq_c2 hR, pq_in, pq_cl, h1, if_neg h2]
  · refine Or.inl ⟨3, g 0, trivial, ?_⟩
    · simp (disch := omega) only [f_X7_adulterate, q1_has hR, q8_out, q5_bec, pq_kb hK, pq_b1 hR, pq_b2 hR, pq_b3 hR, q0_empty, f_X0_room, f_X0_isFreeFor, pq_w0 hX, pq_w1 hX, pq_k0 hK, pq_k1 hK, pq_k3 hK, pq_k4 hK, pq_kp hK, pq_ks hK, pq_bd, pq_ck, pq_bx, rc_lt, pq_i10, pq_i01, not_false_eq_true, not_true_eq_false, and_self, and_true, true_and, and_false, false_and, or_true, true_or, or_false, false_or, if_true, if_false, ↓reduceIte, Decidable.not_not, ne_eq, Int32.reduceLE, Int32.reduceLT, pq_nes, eq_self, pq_c0 hR, pq_c2 hR, pq_in, pq_cl, if_neg h1]
theorem pa_drink (hX : pq_X rf x) {u : Int32} : pa_Op x (f_X7_letPanelDrink rf (x + 1) u) (True) (fun g n p v g' n' p' => ∃ b, b < n ∧ u = Int32.ofNat b ∧ p ≠ 0 ∧ (p : Int) ≤ (g (16 + 6 * b)).toInt ∧ n' = n ∧ p' = p ∧ ((pq_ns g p (pq_P g b) = 0 ∧ v = pq_N g b 0 * g 1 ∧ g' = upd (pq_go g b (g 1) (pq_hi g b (g 1))) 8 (g 8 + g 1)) ∨ (pq_ns g p (pq_P g b) ≠ 0 ∧ v = 0 ∧ g' = pq_em (upd (upd (upd g 8 (g 8 + g 1)) 9 (g 9 + (g (16 + 6 * b) - g 1))) 10 (g 10 + 1)) b))) := by
  intro σ n p Bd g hR hV hB9
  have hB : Bd ≤ 900 := by omega
  have hK := pq_xk hX
  have h8 := pq_vn hV
  have h4 := pq_vp hV
  have hS := pq_RS hR h8 h4
  by_cases h1 : ¬ u < 0 ∧ u < g 0
  · obtain ⟨b, hb, rfl⟩ := pq_ub hV h1
    have hb8 : b < 8 := by omega
    obtain ⟨H, L, T, a1, a2, a3, e1, e2, e3⟩ := pq_bN hV hb
    obtain ⟨v, hv9, ev⟩ := pq_N9 hV (by omega) hb
    by_cases h2 : g 1 = 0
    · refine Or.inl ⟨11, 0, trivial, ?_⟩
      · simp (disch := omega) only [f_X7_letPanelDrink, q1_has hR, q5_bec, pq_kb hK, pq_b1 hR, pq_b2 hR, pq_b3 hR, q0_empty, f_X0_room, f_X0_isFreeFor, pq_w0 hX, pq_w1 hX, pq_k0 hK, pq_k1 hK, pq_k3 hK, pq_k4 hK, pq_kp hK, pq_ks hK, pq_bd, pq_ck, pq_bx, rc_lt, pq_i10, pq_i01, not_false_eq_true, not_true_eq_false, and_self, and_true, true_and, and_false, false_and, or_true, true_or, or_false, false_or, if_true, if_false, ↓reduceIte, Decidable.not_not, ne_eq, Int32.reduceLE, Int32.reduceLT, pq_nes, eq_self, pq_c0 hR, pq_c1 hR, pq_in, pq_cl, h1, h2]
    · have hp0 : p ≠ 0 := fun q => h2 (by rw [pq_v1 hV, q]; rfl)
      by_cases h3 : g 1 ≤ g (16 + 6 * b)
      · have z3 : p ≤ L := by rw [pq_v1 hV, e2] at h3; exact (pq_le (by omega) (by omega)).mp h3
        have hl0 : 0 ≤ (g (16 + 6 * b)).toInt := by rw [e2, pq_ti (by omega)]; omega
        obtain ⟨W, w1, w2, w3, ew⟩ := pq_hiN (g := g) (b := b) a1 a2 z3 (by omega) e1 e2
        rw [← pq_v1 hV] at ew
        have hB0 := pq_VB hV hb
        have hB : pq_vB (g 3) (g (15 + 6 * b)) (g (16 + 6 * b)) (g (17 + 6 * b)) (g (18 + 6 * b)) (g (19 + 6 * b)) (g (20 + 6 * b)) (Bd + 1) := ⟨hB0.1, hB0.2.1, ⟨hB0.2.2.1.1, by have := hB0.2.2.1.2; omega⟩, hB0.2.2.2⟩
        have hgo := pq_goV hB (pq_v3 hV).1 a1 a2 z3 (by omega) w1 w3 e1 e2 ew
        rw [← pq_v1 hV] at hgo
        obtain ⟨s1, f1, r1, q1⟩ := q0_go (rf := rf) hS hb8 hl0 (by unfold pq_lv; omega) (by unfold pq_lv; omega) (u := g 1)
        have lit : pq_go g b (g 1) (pq_hi g b (g 1)) (16 + 6 * b) = g (16 + 6 * b) - g 1 := by
          unfold pq_go
          split
          · rename_i hz; rw [hz]; exact pq_emE.1
          · simp (disch := omega) only [pq_udN, pq_udE]
        have s11 : s1 (x + 2 + 7 + b) 1 = g (16 + 6 * b) - g 1 := by
          have e := r1 (15 + 6 * b + 1) (by omega) (by unfold pq_lv; omega)
          rw [(pq_adb hb8 (by omega)).1, (pq_adb hb8 (by omega)).2, ← Nat.add_assoc, show 15 + 6 * b + 1 = 16 + 6 * b by omega, lit] at e; exact e
        have sc : s1 (x + 2) = σ (x + 2) := q1 _ (by omega)
        have gN : ∀ j, (j < 16 + 6 * b ∨ 21 + 6 * b ≤ j) → pq_go g b (g 1) (pq_hi g b (g 1)) j = g j := fun j hj => pq_goN j hj
        by_cases h5 : pq_ns g p (pq_P g b) = 0
        · refine Or.inr ⟨pq_N g b 0 * g 1, rc_up s1 (x + 2) 11 (g 8 + g 1), upd (pq_go g b (g 1) (pq_hi g b (g 1))) 8 (g 8 + g 1), n, p, ?_, ?_, fun a ha => by rw [pq_upN (by omega)]; exact q1 a (by omega), pq_SR (pq_Sc8 r1 _) h8 h4 (fun j hj hl => Or.inl hl), ?_, ⟨b, hb, rfl, hp0, by rw [e2, pq_ti (by omega)]; omega, rfl, rfl, Or.inl ⟨h5, rfl, rfl⟩⟩⟩
          · have hvp : v * p ≤ 9 * 4 := Nat.mul_le_mul hv9 h4
            rw [ev, pq_v1 hV, ← Int32.ofNat_mul]; exact pa_nnN (by omega)
          · simp (disch := omega) only [f_X7_letPanelDrink, q1_has hR, q5_bec, pq_kb hK, pq_b1 hR, pq_b2 hR, pq_b3 hR, q0_empty, f_X0_room, f_X0_isFreeFor, pq_w0 hX, pq_w1 hX, pq_k0 hK, pq_k1 hK, pq_k3 hK, pq_k4 hK, pq_kp hK, pq_ks hK, pq_bd, pq_ck, pq_bx, rc_lt, pq_i10, pq_i01, not_false_eq_true, not_true_eq_false, and_self, and_true, true_and, and_false, false_and, or_true, true_or, or_false, false_or, if_true, if_false, ↓reduceIte, Decidable.not_not, ne_eq, Int32.reduceLE, Int32.reduceLT, pq_nes, eq_self, pq_c0 hR, pq_c1 hR, pq_in, pq_cl, h1, h2, h3, q1_note hR hV, q1_part hR hV hb, q_3_noses hK hR hV, h5, f1, pq_bd, sc, pq_c8 hR]
          · refine pq_Vn hV ⟨by rw [pq_udN (by omega), gN _ (by omega)]; exact pq_v0 hV, h8⟩ ⟨by rw [pq_udN (by omega), gN _ (by omega)]; exact pq_v1 hV, h4⟩ (Or.inl (by rw [pq_udN (by omega), gN _ (by omega)])) (Or.inl (by rw [pq_udN (by omega), gN _ (by omega)])) (Or.inl (by rw [pq_udN (by omega), gN _ (by omega)])) (fun r hr => Or.inl (by rw [pq_udN (by omega), gN _ (by omega)])) (fun b' hb' => ?_) (fun j hj => Or.inl ⟨hj, by rw [pq_udN (by omega), gN _ (by omega)], by rw [pq_udN (by omega), gN _ (by omega)]⟩)
            by_cases e : b' = b
            · subst e
              refine Or.inr ?_
              simp (disch := omega) only [pq_udN]
              rw [gN 3 (by omega)]
              exact hgo
            · exact Or.inl ⟨hb', fun k hk => by rw [pq_udN (by omega), gN _ (by omega)]⟩
        · have hz : ((0 : Int32) = 0) := rfl
          obtain ⟨s2, f2, r2, q2⟩ := q0_em (rf := rf) (b := b) (pq_Sc10 (pq_Sc9 (pq_Sc8 r1 (g 8 + g 1)) (g 9 + (g (16 + 6 * b) - g 1))) (g 10 + 1)) hb8
          have gE : pq_em (upd (upd (upd (pq_go g b (g 1) (pq_hi g b (g 1))) 8 (g 8 + g 1)) 9 (g 9 + (g (16 + 6 * b) - g 1))) 10 (g 10 + 1)) b = pq_em (upd (upd (upd g 8 (g 8 + g 1)) 9 (g 9 + (g (16 + 6 * b) - g 1))) 10 (g 10 + 1)) b := by
            refine pq_emC (fun j hj => ?_)
            simp only [upd]
            rw [gN j hj]
          rw [gE] at r2
          have eN : ∀ j, j ≠ 8 → j ≠ 9 → j ≠ 10 → (j < 16 + 6 * b ∨ 21 + 6 * b ≤ j) → pq_em (upd (upd (upd g 8 (g 8 + g 1)) 9 (g 9 + (g (16 + 6 * b) - g 1))) 10 (g 10 + 1)) b j = g j := fun j j1 j2 j3 hj => by rw [pq_emN j hj, pq_udN j3, pq_udN j2, pq_udN j1]
          refine Or.inr ⟨0, s2, pq_em (upd (upd (upd g 8 (g 8 + g 1)) 9 (g 9 + (g (16 + 6 * b) - g 1))) 10 (g 10 + 1)) b, n, p, by decide, ?_, fun a ha => by rw [q2 a (by omega), pq_upN (by omega), pq_upN (by omega), pq_upN (by omega)]; exact q1 a (by omega), pq_SR r2 h8 h4 (fun j hj hl => Or.inl (Or.inl (Or.inl hl))), ?_, ⟨b, hb, rfl, hp0, by rw [e2, pq_ti (by omega)]; omega, rfl, rfl, Or.inr ⟨h5, rfl, rfl⟩⟩⟩
          · simp (disch := omega) only [f_X7_letPanelDrink, q1_has hR, q5_bec, pq_kb hK, pq_b1 hR, pq_b2 hR, pq_b3 hR, q0_empty, f_X0_room, f_X0_isFreeFor, pq_w0 hX, pq_w1 hX, pq_k0 hK, pq_k1 hK, pq_k3 hK, pq_k4 hK, pq_kp hK, pq_ks hK, pq_bd, pq_ck, pq_bx, rc_lt, pq_i10, pq_i01, not_false_eq_true, not_true_eq_false, and_self, and_true, true_and, and_false, false_and, or_true, true_or, or_false, false_or, if_true, if_false, ↓reduceIte, Decidable.not_not, ne_eq, Int32.reduceLE, Int32.reduceLT, pq_nes, eq_self, pq_c0 hR, pq_c1 hR, pq_in, pq_cl, h1, h2, h3, q1_note hR hV, q1_part hR hV hb, q_3_noses hK hR hV, if_neg h5, f1, pq_bd, sc, pq_c8 hR, pq_upE, pq_udN, pq_upN, s11, pq_c9 hR, pq_c10 hR, f2]
          · refine pq_Vn hV ⟨by rw [eN _ (by omega) (by omega) (by omega) (by omega)]; exact pq_v0 hV, h8⟩ ⟨by rw [eN _ (by omega) (by omega) (by omega) (by omega)]; exact pq_v1 hV, h4⟩ (Or.inl (by rw [eN _ (by omega) (by omega) (by omega) (by omega)])) (Or.inl (by rw [eN _ (by omega) (by omega) (by omega) (by omega)])) (Or.inl (by rw [eN _ (by omega) (by omega) (by omega) (by omega)])) (fun r hr => Or.inl (by rw [eN _ (by omega) (by omega) (by omega) (by omega)])) (fun b' hb' => ?_) (fun j hj => Or.inl ⟨hj, by rw [eN _ (by omega) (by omega) (by omega) (by omega)], by rw [eN _ (by omega) (by omega) (by omega) (by omega)]⟩)
            by_cases e : b' = b
            · subst e
              refine Or.inr ?_
              have z := pq_emE (g := upd (upd (upd g 8 (g 8 + g 1)) 9 (g 9 + (g (16 + 6 * b') - g 1))) 10 (g 10 + 1)) (b := b')
              rw [z.1, z.2.1, z.2.2.1, z.2.2.2.1, z.2.2.2.2, eN 3 (by omega) (by omega) (by omega) (by omega), eN (15 + 6 * b') (by omega) (by omega) (by omega) (by omega)]
              exact ⟨hB0.1, by decide, ⟨by decide, by rw [show (-1 : Int32).toInt = -1 from rfl]; omega⟩, by decide, ⟨by decide, by rw [Int32.toInt_zero]; exact (pq_v3 hV).1⟩, fun _ => ⟨rfl, rfl, rfl, rfl⟩, fun q => absurd rfl q⟩
            · exact Or.inl ⟨hb', fun k hk => by rw [eN _ (by omega) (by omega) (by omega) (by omega)]⟩
      · refine Or.inl ⟨6, g (16 + 6 * b), trivial, ?_⟩
        · simp (disch := omega) only [f_X7_letPanelDrink, q1_has hR, q5_bec, pq_kb hK, pq_b1 hR, pq_b2 hR, pq_b3 hR, q0_empty, f_X0_room, f_X0_isFreeFor, pq_w0 hX, pq_w1 hX, pq_k0 hK, pq_k1 hK, pq_k3 hK, pq_k4 hK, pq_kp hK, pq_ks hK, pq_bd, pq_ck, pq_bx, rc_lt, pq_i10, pq_i01, not_false_eq_true, not_true_eq_false, and_self, and_true, true_and, and_false, false_and, or_true, true_or, or_false, false_or, if_true, if_false, ↓reduceIte, Decidable.not_not, ne_eq, Int32.reduceLE, Int32.reduceLT, pq_nes, eq_self, pq_c0 hR, pq_c1 hR, pq_in, pq_cl, h1, h2, h3]
  · refine Or.inl ⟨3, g 0, trivial, ?_⟩
    · simp (disch := omega) only [f_X7_letPanelDrink, q1_has hR, q5_bec, pq_kb hK, pq_b1 hR, pq_b2 hR, pq_b3 hR, q0_empty, f_X0_room, f_X0_isFreeFor, pq_w0 hX, pq_w1 hX, pq_k0 hK, pq_k1 hK, pq_k3 hK, pq_k4 hK, pq_kp hK, pq_ks hK, pq_bd, pq_ck, pq_bx, rc_lt, pq_i10, pq_i01, not_false_eq_true, not_true_eq_false, and_self, and_true, true_and, and_false, false_and, or_true, true_or, or_false, false_or, if_true, if_false, ↓reduceIte, Decidable.not_not, ne_eq, Int32.reduceLE, Int32.reduceLT, pq_nes, eq_self, pq_c0 hR, pq_c1 hR, pq_in, pq_cl, if_neg h1]
theorem pa_year (hX : pq_X rf x) : pa_Op x (f_X7_letYearGoBy rf (x + 1)) (False) (fun g n p v g' n' p' => v = g 2 ∧ g' = upd (upd (pq_mg pq_yr 0 4 g) 2 0) 3 (g 3 + 1) ∧ n' = n ∧ p' = p) := by
  intro σ n p Bd g hR hV hB9
  have hB : Bd ≤ 900 := by omega
  have hK := pq_xk hX
  have h8 := pq_vn hV
  have h4 := pq_vp hV
  have hS := pq_RS hR h8 h4
  obtain ⟨s, e1, e2, e3⟩ := qo_y7 hX (g 2) (S := pq_lv n p) (fun r hr => Or.inl (by omega)) 4 (99999 - 4) 0 σ g (by omega) hS
  rw [← pq_fu 4 (by omega), show Int32.ofNat 0 = (0 : Int32) from rfl] at e1
  have sc : s (x + 2) = σ (x + 2) := e3 _ (by omega)
  have mN : ∀ j, (j < 11 ∨ 15 ≤ j) → pq_mg pq_yr 0 4 g j = g j := fun j hj => by rw [pq_mgE, if_neg (by omega)]
  have y3 := pq_v3 hV
  refine Or.inr ⟨g 2, rc_up (rc_up s (x + 2) 6 0) (x + 2) 7 (g 3 + 1), upd (upd (pq_mg pq_yr 0 4 g) 2 0) 3 (g 3 + 1), n, p, id (pq_v2 hV).1, ?_, fun a ha => by rw [pq_upN (by omega), pq_upN (by omega)]; exact e3 a (by omega), pq_SR (pq_Sc3 (pq_Sc2 e2 0) (g 3 + 1)) h8 h4 (fun j hj hl => Or.inl (Or.inl hl)), ?_, ⟨rfl, rfl, rfl, rfl⟩⟩
  · rw [f_X7_letYearGoBy, pq_w0 hX, pq_c2 hR, rc_lt, e1]
    simp (disch := omega) only [rc_lt, pq_upE, pq_udN, sc, pq_c3 hR]
  · obtain ⟨Y, hY, eY⟩ := pq_natL (n := Bd) y3.1 y3.2 (by omega)
    have e5 : g 3 + 1 = Int32.ofNat (Y + 1) := by rw [eY, pq_s]
    refine pq_Vn hV ⟨by rw [pq_udN (by omega), pq_udN (by omega), mN _ (by omega)]; exact pq_v0 hV, h8⟩ ⟨by rw [pq_udN (by omega), pq_udN (by omega), mN _ (by omega)]; exact pq_v1 hV, h4⟩ (Or.inr (by rw [pq_udN (by omega), pq_udE]; decide)) (Or.inr (by rw [pq_udE, e5, eY, pq_ti (by omega), pq_ti (by omega)]; omega)) (Or.inl (by rw [pq_udN (by omega), pq_udN (by omega), mN _ (by omega)])) (fun r hr => ?_) (fun b hb => Or.inl ⟨hb, fun k hk => by rw [pq_udN (by omega), pq_udN (by omega), mN _ (by omega)]⟩) (fun j hj => Or.inl ⟨hj, by rw [pq_udN (by omega), pq_udN (by omega), mN _ (by omega)], by rw [pq_udN (by omega), pq_udN (by omega), mN _ (by omega)]⟩)
    refine Or.inr ?_
    rw [pq_udN (by omega), pq_udN (by omega), pq_mgE, if_pos (by omega)]
    obtain ⟨v, hv, ev⟩ := pq_natL (n := 9) (pq_vm hV hr).1 (pq_vm hV hr).2 (by decide)
    rw [ev]
    have : ∀ v, v < 10 → 0 ≤ (pq_yr (Int32.ofNat v)).toInt ∧ (pq_yr (Int32.ofNat v)).toInt ≤ 9 := by decide
    exact this v (by omega)
theorem pa_leave (hX : pq_X rf x) {u : Int32} : pa_Op x (f_X7_letLeave rf (x + 1) u) (True) (fun g n p v g' n' p' => ∃ j, j < p ∧ g' = pq_lg g p j ∧ n' = n ∧ p' = p - 1) := by
  intro σ n p Bd g hR hV hB9
  have hB : Bd ≤ 900 := by omega
  have hK := pq_xk hX
  have h8 := pq_vn hV
  have h4 := pq_vp hV
  have hS := pq_RS hR h8 h4
  by_cases h1 : ¬ u < 0 ∧ u < g 1
  · obtain ⟨j, hj, rfl⟩ := pq_us hV h1
    obtain ⟨s, e1, e2, e3, e4⟩ := qo_l7 hK h4 (p - 1 - j) (99999 - (p - 1 - j)) j σ (by omega) (by rw [pq_c1 hR]; exact pq_v1 hV)
    rw [← pq_fu (p - 1 - j) (by omega)] at e1
    have gp : Int32.ofNat p - 1 = Int32.ofNat (p - 1) := q9_k1 (by omega)
    have gN : ∀ i, i ≠ 1 → (i < 63 + 2 * j ∨ 63 + 2 * p ≤ i) → pq_lg g p j i = g i := fun i i1 i2 => by unfold pq_lg; rw [if_neg i1, if_neg (by omega), if_neg (by omega)]
    have gO : ∀ k, k < p - 1 → pq_lg g p j (63 + 2 * k) = g (63 + 2 * (if j ≤ k then k + 1 else k)) ∧ pq_lg g p j (64 + 2 * k) = g (64 + 2 * (if j ≤ k then k + 1 else k)) := fun k hk => by
      refine ⟨?_, ?_⟩
      · unfold pq_lg
        rw [if_neg (by omega), if_neg (by omega)]
        by_cases h : j ≤ k
        · rw [if_pos (by omega), if_pos h, show 63 + 2 * k + 2 = 63 + 2 * (k + 1) by omega]
        · rw [if_neg (by omega), if_neg h]
      · unfold pq_lg
        rw [if_neg (by omega), if_neg (by omega)]
        by_cases h : j ≤ k
        · rw [if_pos (by omega), if_pos h, show 64 + 2 * k + 2 = 64 + 2 * (k + 1) by omega]
        · rw [if_neg (by omega), if_neg h]
    have h1p : Int32.ofNat j < Int32.ofNat p := by rw [← pq_v1 hV]; exact h1.2
    refine Or.inr ⟨Int32.ofNat (p - 1), rc_up s (x + 2 + 3) 2 (Int32.ofNat (p - 1)), pq_lg g p j, n, p - 1, pa_nnN (by omega), ?_, fun a ha => by rw [pq_upN (by omega)]; exact e2 a (by omega) (by omega), ?_, ?_, ⟨j, hj, rfl, rfl, rfl⟩⟩
    · simp (disch := omega) only [f_X7_letLeave, q3_has hR, q5_bec, pq_w0 hX, pq_w1 hX, pq_k0 hK, pq_k1 hK, pq_k3 hK, pq_k4 hK, pq_kp hK, pq_ks hK, pq_bd, pq_ck, pq_bx, rc_lt, pq_i10, pq_i01, not_false_eq_true, not_true_eq_false, and_self, and_true, true_and, and_false, false_and, or_true, true_or, or_false, false_or, if_true, if_false, ↓reduceIte, Decidable.not_not, ne_eq, Int32.reduceLE, Int32.reduceLT, pq_nes, eq_self, pq_c1 hR, h1, h1p, f_X3_remove, e1, e2, pq_v1 hV, gp, pq_upE, pq_udE]
    · have sc : ∀ a, a ≠ x + 2 + 4 → a ≠ x + 2 + 5 → a ≠ x + 2 + 3 → rc_up s (x + 2 + 3) 2 (Int32.ofNat (p - 1)) a = σ a := fun a a1 a2 a3 => by rw [pq_upN a3, e2 a a1 a2]
      refine ⟨⟨?_, ?_, ?_, ?_, ?_, ?_, ?_, ?_, ?_, ?_, ?_⟩, fun r hr => ?_, fun b hb => ?_, fun k hk => ?_, fun q hq => ?_⟩
      · rw [sc _ (by omega) (by omega) (by omega), gN _ (by omega) (by omega)]; exact pq_c0 hR
      · rw [pq_upE, pq_udE]; unfold pq_lg; rw [if_pos rfl]
      · rw [sc _ (by omega) (by omega) (by omega), gN _ (by omega) (by omega)]; exact pq_c2 hR
      · rw [sc _ (by omega) (by omega) (by omega), gN _ (by omega) (by omega)]; exact pq_c3 hR
      · rw [sc _ (by omega) (by omega) (by omega), gN _ (by omega) (by omega)]; exact pq_c4 hR
      · rw [sc _ (by omega) (by omega) (by omega), gN _ (by omega) (by omega)]; exact pq_c5 hR
      · rw [sc _ (by omega) (by omega) (by omega), gN _ (by omega) (by omega)]; exact pq_c6 hR
      · rw [sc _ (by omega) (by omega) (by omega), gN _ (by omega) (by omega)]; exact pq_c7 hR
      · rw [sc _ (by omega) (by omega) (by omega), gN _ (by omega) (by omega)]; exact pq_c8 hR
      · rw [sc _ (by omega) (by omega) (by omega), gN _ (by omega) (by omega)]; exact pq_c9 hR
      · rw [sc _ (by omega) (by omega) (by omega), gN _ (by omega) (by omega)]; exact pq_c10 hR
      · rw [sc _ (by omega) (by omega) (by omega), gN _ (by omega) (by omega)]; exact pq_cm hR hr
      · rw [sc _ (by omega) (by omega) (by omega), gN _ (by omega) (by omega), gN _ (by omega) (by omega), gN _ (by omega) (by omega), gN _ (by omega) (by omega), gN _ (by omega) (by omega), gN _ (by omega) (by omega)]
        exact ⟨pq_b0 hR hb, pq_b1 hR hb, pq_b2 hR hb, pq_b3 hR hb, pq_b4 hR hb, pq_b5 hR hb⟩
      · rw [pq_upN (by omega), pq_upN (by omega), (gO k hk).1, (gO k hk).2]
        by_cases h : j ≤ k
        · have q := e3 k h hk
          rw [q.1, q.2, if_pos h, pq_pp hR (by omega), pq_ps hR (by omega)]
          exact ⟨rfl, pq_nb01 (pq_vps hV (by omega))⟩
        · have q := e4 k (by omega)
          rw [q.1, q.2, if_neg h]
          exact ⟨pq_pp hR (by omega), pq_ps hR (by omega)⟩
      · rw [sc _ (by omega) (by omega) (by omega), gN _ (by omega) (by omega), gN _ (by omega) (by omega), gN _ (by omega) (by omega)]
        exact ⟨pq_q0 hR hq, pq_q1 hR hq, pq_q2 hR hq⟩
    · refine pq_Vn hV ⟨by rw [gN _ (by omega) (by omega)]; exact pq_v0 hV, h8⟩ ⟨by unfold pq_lg; rw [if_pos rfl], by omega⟩ (Or.inl (gN _ (by omega) (by omega))) (Or.inl (gN _ (by omega) (by omega))) (Or.inl (gN _ (by omega) (by omega))) (fun r hr => Or.inl (gN _ (by omega) (by omega))) (fun b hb => Or.inl ⟨hb, fun k hk => gN _ (by omega) (by omega)⟩) (fun k hk => Or.inr ?_)
      rw [(gO k hk).1, (gO k hk).2]
      have hk2 : (if j ≤ k then k + 1 else k) < p := by split <;> omega
      exact ⟨pq_vpp hV hk2, pq_vps hV hk2⟩
  · refine Or.inl ⟨4, g 1, trivial, ?_⟩
    · simp (disch := omega) only [f_X7_letLeave, q3_has hR, q5_bec, pq_w0 hX, pq_w1 hX, pq_k0 hK, pq_k1 hK, pq_k3 hK, pq_k4 hK, pq_kp hK, pq_ks hK, pq_bd, pq_ck, pq_bx, rc_lt, pq_i10, pq_i01, not_false_eq_true, not_true_eq_false, and_self, and_true, true_and, and_false, false_and, or_true, true_or, or_false, false_or, if_true, if_false, ↓reduceIte, Decidable.not_not, ne_eq, Int32.reduceLE, Int32.reduceLT, pq_nes, eq_self, pq_c1 hR, if_neg h1]
theorem pa_take (hX : pq_X rf x) {u : Int32} : pa_Op x (f_X7_removeBarrel rf (x + 1) u) (True) (fun g n p v g' n' p' => ∃ b, b < n ∧ g (16 + 6 * b) = 0 ∧ g' = pq_tg g n b ∧ n' = n - 1 ∧ p' = p) := by
  intro σ n p Bd g hR hV hB9
  have hB : Bd ≤ 900 := by omega
  have hK := pq_xk hX
  have h8 := pq_vn hV
  have h4 := pq_vp hV
  have hS := pq_RS hR h8 h4
  by_cases h1 : ¬ u < 0 ∧ u < g 0
  · obtain ⟨b, hb, rfl⟩ := pq_ub hV h1
    have hb8 : b < 8 := by omega
    have hl := pq_vh hV hb
    have hz : (g (16 + 6 * b) ≤ 0) = (g (16 + 6 * b) = 0) := by
      have := pq_i0 (Int.le_trans hl.1 hl.2.1)
      apply propext; constructor <;> intro q <;> grind
    by_cases h2 : g (16 + 6 * b) = 0
    · obtain ⟨s, e1, e2, e3⟩ := qo_t7 hK h8 (n - 1 - b) (99999 - (n - 1 - b)) b σ (by omega) (by rw [pq_c0 hR]; exact pq_v0 hV)
      rw [← pq_fu (n - 1 - b) (by omega)] at e1
      have gp : Int32.ofNat n - 1 = Int32.ofNat (n - 1) := q9_k1 (by omega)
      have gN : ∀ i, i ≠ 0 → (i < 15 + 6 * b ∨ 15 + 6 * n ≤ i) → pq_tg g n b i = g i := fun i i1 i2 => by unfold pq_tg; rw [if_neg i1, if_neg (by omega), if_neg (by omega)]
      have gO : ∀ k z, k < n - 1 → z < 6 → pq_tg g n b (15 + 6 * k + z) = g (15 + 6 * (if b ≤ k then k + 1 else k) + z) := fun k z hk hz => by
        unfold pq_tg
        by_cases h : b ≤ k
        · rw [if_neg (by omega), if_neg (by omega), if_pos (by omega), if_pos h, show 15 + 6 * k + z + 6 = 15 + 6 * (k + 1) + z by omega]
        · rw [if_neg (by omega), if_neg (by omega), if_neg (by omega), if_neg h]
      have gB : ∀ k, k < n - 1 → pq_tg g n b (15 + 6 * k) = g (15 + 6 * (if b ≤ k then k + 1 else k)) ∧ pq_tg g n b (16 + 6 * k) = g (16 + 6 * (if b ≤ k then k + 1 else k)) ∧ pq_tg g n b (17 + 6 * k) = g (17 + 6 * (if b ≤ k then k + 1 else k)) ∧ pq_tg g n b (18 + 6 * k) = g (18 + 6 * (if b ≤ k then k + 1 else k)) ∧ pq_tg g n b (19 + 6 * k) = g (19 + 6 * (if b ≤ k then k + 1 else k)) ∧ pq_tg g n b (20 + 6 * k) = g (20 + 6 * (if b ≤ k then k + 1 else k)) := fun k hk => by
        have f := fun z hz => gO k z hk hz
        generalize (if b ≤ k then k + 1 else k) = k' at f ⊢
        have f0 := f 0 (by omega); have f1 := f 1 (by omega); have f2 := f 2 (by omega); have f3 := f 3 (by omega); have f4 := f 4 (by omega); have f5 := f 5 (by omega)
        rw [show 15 + 6 * k + 1 = 16 + 6 * k by omega, show 15 + 6 * k' + 1 = 16 + 6 * k' by omega] at f1
        rw [show 15 + 6 * k + 2 = 17 + 6 * k by omega, show 15 + 6 * k' + 2 = 17 + 6 * k' by omega] at f2
        rw [show 15 + 6 * k + 3 = 18 + 6 * k by omega, show 15 + 6 * k' + 3 = 18 + 6 * k' by omega] at f3
        rw [show 15 + 6 * k + 4 = 19 + 6 * k by omega, show 15 + 6 * k' + 4 = 19 + 6 * k' by omega] at f4
        rw [show 15 + 6 * k + 5 = 20 + 6 * k by omega, show 15 + 6 * k' + 5 = 20 + 6 * k' by omega] at f5
        exact ⟨f0, f1, f2, f3, f4, f5⟩
      have sc : s (x + 2) = σ (x + 2) := e2 _ (by omega)
      have h1p : Int32.ofNat b < Int32.ofNat n := by rw [← pq_v0 hV]; exact h1.2
      refine Or.inr ⟨Int32.ofNat (n - 1), rc_up s (x + 2) 2 (Int32.ofNat (n - 1)), pq_tg g n b, n - 1, p, pa_nnN (by omega), ?_, fun a ha => by rw [pq_upN (by omega)]; exact e2 a (by omega), ?_, ?_, ⟨b, hb, h2, rfl, rfl, rfl⟩⟩
      · simp (disch := omega) only [f_X7_removeBarrel, q1_has hR, q5_bec, pq_kb hK, pq_b1 hR, pq_b2 hR, pq_b3 hR, q0_empty, f_X0_room, f_X0_isFreeFor, pq_w0 hX, pq_w1 hX, pq_k0 hK, pq_k1 hK, pq_k3 hK, pq_k4 hK, pq_kp hK, pq_ks hK, pq_bd, pq_ck, pq_bx, rc_lt, pq_i10, pq_i01, not_false_eq_true, not_true_eq_false, and_self, and_true, true_and, and_false, false_and, or_true, true_or, or_false, false_or, if_true, if_false, ↓reduceIte, Decidable.not_not, ne_eq, Int32.reduceLE, Int32.reduceLT, pq_nes, eq_self, pq_c0 hR, pq_in, pq_cl, h1, h1p, h2, f_X1_dropBarrel, e1, sc, pq_v0 hV, gp, pq_upE, pq_udE]
      · have sN : ∀ a, a ≠ x + 2 → (a < x + 2 + 7 ∨ x + 2 + 15 ≤ a) → rc_up s (x + 2) 2 (Int32.ofNat (n - 1)) a = σ a := fun a a1 a2 => by rw [pq_upN a1, e2 a (by omega)]
        have sC : ∀ z, z ≠ 2 → rc_up s (x + 2) 2 (Int32.ofNat (n - 1)) (x + 2) z = σ (x + 2) z := fun z hz => by rw [pq_upE, pq_udN hz, sc]
        refine ⟨⟨?_, ?_, ?_, ?_, ?_, ?_, ?_, ?_, ?_, ?_, ?_⟩, fun r hr => ?_, fun k hk => ?_, fun j hj => ?_, fun q hq => ?_⟩
        · rw [pq_upE, pq_udE]; unfold pq_tg; rw [if_pos rfl]
        · rw [sN _ (by omega) (by omega), gN _ (by omega) (by omega)]; exact pq_c1 hR
        · rw [sC _ (by omega), gN _ (by omega) (by omega)]; exact pq_c2 hR
        · rw [sC _ (by omega), gN _ (by omega) (by omega)]; exact pq_c3 hR
        · rw [sC _ (by omega), gN _ (by omega) (by omega)]; exact pq_c4 hR
        · rw [sC _ (by omega), gN _ (by omega) (by omega)]; exact pq_c5 hR
        · rw [sC _ (by omega), gN _ (by omega) (by omega)]; exact pq_c6 hR
        · rw [sC _ (by omega), gN _ (by omega) (by omega)]; exact pq_c7 hR
        · rw [sC _ (by omega), gN _ (by omega) (by omega)]; exact pq_c8 hR
        · rw [sC _ (by omega), gN _ (by omega) (by omega)]; exact pq_c9 hR
        · rw [sC _ (by omega), gN _ (by omega) (by omega)]; exact pq_c10 hR
        · rw [sN _ (by omega) (by omega), gN _ (by omega) (by omega)]; exact pq_cm hR hr
        · have hz6 : ∀ z, z < 6 → rc_up s (x + 2) 2 (Int32.ofNat (n - 1)) (x + 2 + 7 + k) z = σ (x + 2 + 7 + (if b ≤ k then k + 1 else k)) z := fun z hz => by
            rw [pq_upN (by omega)]
            by_cases h : b ≤ k
            · rw [e3 k h hk z hz, if_pos h]
            · rw [e2 _ (by omega), if_neg h]
          have hk2 : (if b ≤ k then k + 1 else k) < n := by split <;> omega
          have z := gB k hk
          rw [hz6 0 (by omega), hz6 1 (by omega), hz6 2 (by omega), hz6 3 (by omega), hz6 4 (by omega), hz6 5 (by omega), z.1, z.2.1, z.2.2.1, z.2.2.2.1, z.2.2.2.2.1, z.2.2.2.2.2]
          exact ⟨pq_b0 hR hk2, pq_b1 hR hk2, pq_b2 hR hk2, pq_b3 hR hk2, pq_b4 hR hk2, pq_b5 hR hk2⟩
        · rw [sN _ (by omega) (by omega), sN _ (by omega) (by omega), gN _ (by omega) (by omega), gN _ (by omega) (by omega)]
          exact ⟨pq_pp hR hj, pq_ps hR hj⟩
        · rw [sN _ (by omega) (by omega), gN _ (by omega) (by omega), gN _ (by omega) (by omega), gN _ (by omega) (by omega)]
          exact ⟨pq_q0 hR hq, pq_q1 hR hq, pq_q2 hR hq⟩
      · refine pq_Vn hV ⟨by unfold pq_tg; rw [if_pos rfl], by omega⟩ ⟨by rw [gN _ (by omega) (by omega)]; exact pq_v1 hV, h4⟩ (Or.inl (gN _ (by omega) (by omega))) (Or.inl (gN _ (by omega) (by omega))) (Or.inl (gN _ (by omega) (by omega))) (fun r hr => Or.inl (gN _ (by omega) (by omega))) (fun k hk => Or.inr ?_) (fun j hj => Or.inl ⟨hj, gN _ (by omega) (by omega), gN _ (by omega) (by omega)⟩)
        have z := gB k hk
        have hk2 : (if b ≤ k then k + 1 else k) < n := by split <;> omega
        rw [z.1, z.2.1, z.2.2.1, z.2.2.2.1, z.2.2.2.2.1, z.2.2.2.2.2, gN 3 (by omega) (by omega)]
        have y := pq_VB hV hk2
        exact ⟨y.1, y.2.1, ⟨y.2.2.1.1, by have := y.2.2.1.2; omega⟩, y.2.2.2⟩
    · refine Or.inl ⟨5, g (16 + 6 * b), trivial, ?_⟩
      · simp (disch := omega) only [f_X7_removeBarrel, q1_has hR, q5_bec, pq_kb hK, pq_b1 hR, pq_b2 hR, pq_b3 hR, q0_empty, f_X0_room, f_X0_isFreeFor, pq_w0 hX, pq_w1 hX, pq_k0 hK, pq_k1 hK, pq_k3 hK, pq_k4 hK, pq_kp hK, pq_ks hK, pq_bd, pq_ck, pq_bx, rc_lt, pq_i10, pq_i01, not_false_eq_true, not_true_eq_false, and_self, and_true, true_and, and_false, false_and, or_true, true_or, or_false, false_or, if_true, if_false, ↓reduceIte, Decidable.not_not, ne_eq, Int32.reduceLE, Int32.reduceLT, pq_nes, eq_self, pq_c0 hR, pq_in, pq_cl, h1, h2]
  · refine Or.inl ⟨3, g 0, trivial, ?_⟩
    · simp (disch := omega) only [f_X7_removeBarrel, q1_has hR, q5_bec, pq_kb hK, pq_b1 hR, pq_b2 hR, pq_b3 hR, q0_empty, f_X0_room, f_X0_isFreeFor, pq_w0 hX, pq_w1 hX, pq_k0 hK, pq_k1 hK, pq_k3 hK, pq_k4 hK, pq_kp hK, pq_ks hK, pq_bd, pq_ck, pq_bx, rc_lt, pq_i10, pq_i01, not_false_eq_true, not_true_eq_false, and_self, and_true, true_and, and_false, false_and, or_true, true_or, or_false, false_or, if_true, if_false, ↓reduceIte, Decidable.not_not, ne_eq, Int32.reduceLE, Int32.reduceLT, pq_nes, eq_self, pq_c0 hR, pq_in, pq_cl, if_neg h1]
theorem pa_pour (hX : pq_X rf x) {u v k : Int32} : pa_Op x (f_X7_pourOver rf (x + 1) u v k) (True) (fun g n p v g' n' p' => ∃ f t k, f < n ∧ t < n ∧ f ≠ t ∧ 1 ≤ k ∧ k ≤ 20 ∧ Int32.ofNat k ≤ g (16 + 6 * f) ∧ Int32.ofNat k ≤ 20 - g (16 + 6 * t) ∧ (g (16 + 6 * t) = 0 ∨ g (18 + 6 * t) = g (18 + 6 * f)) ∧ g' = pq_pr g f t (Int32.ofNat k) (pq_hi g f (Int32.ofNat k)) ∧ n' = n ∧ p' = p) := by
  intro σ n p Bd g hR hV hB9
  have hB : Bd ≤ 900 := by omega
  have hK := pq_xk hX
  have h8 := pq_vn hV
  have h4 := pq_vp hV
  have hS := pq_RS hR h8 h4
  by_cases h1 : ¬ u < 0 ∧ u < g 0
  · obtain ⟨f, hf, rfl⟩ := pq_ub hV h1
    have hf8 : f < 8 := by omega
    by_cases h2 : ¬ v < 0 ∧ v < g 0
    · obtain ⟨t, ht, rfl⟩ := pq_ub hV h2
      have ht8 : t < 8 := by omega
      by_cases hft : f = t
      · subst hft
        refine Or.inl ⟨8, Int32.ofNat f, trivial, ?_⟩
        · simp (disch := omega) only [f_X7_pourOver, q1_has hR, q8_out, q5_bec, pq_kb hK, pq_b1 hR, pq_b2 hR, pq_b3 hR, q0_empty, f_X0_room, f_X0_isFreeFor, pq_w0 hX, pq_w1 hX, pq_k0 hK, pq_k1 hK, pq_k3 hK, pq_k4 hK, pq_kp hK, pq_ks hK, pq_bd, pq_ck, pq_bx, rc_lt, pq_i10, pq_i01, not_false_eq_true, not_true_eq_false, and_self, and_true, true_and, and_false, false_and, or_true, true_or, or_false, false_or, if_true, if_false, ↓reduceIte, Decidable.not_not, ne_eq, Int32.reduceLE, Int32.reduceLT, pq_nes, eq_self, pq_c0 hR, pq_in, pq_cl, h1]
      · have he : (Int32.ofNat f = Int32.ofNat t) = False := eq_false (fun q => hft ((pq_eq (by omega) (by omega)).mp q))
        by_cases h3 : ¬ k < 1 ∧ ¬ 20 < k
        · obtain ⟨k, k1, k20, rfl⟩ := pq_20b h3
          by_cases k4 : Int32.ofNat k ≤ g (16 + 6 * f)
          · obtain ⟨Hf, Lf, Tf, a1, a2, a3, b1, b2, b3⟩ := pq_bN hV hf
            obtain ⟨Ht, Lt, Tt, c1, c2, c3, d1, d2, d3⟩ := pq_bN hV ht
            have eLt := d2
            have z1 : k ≤ Lf := by rw [b2] at k4; exact (pq_le (by omega) (by omega)).mp k4
            have hl0 : 0 ≤ (g (16 + 6 * f)).toInt := by rw [b2, pq_ti (by omega)]; omega
            obtain ⟨W, w1, w2, w3, ew⟩ := pq_hiN (g := g) (b := f) a1 a2 z1 (by omega) b1 b2
            obtain ⟨s1, r1, r2, r3, r4⟩ := q0_pour (rf := rf) hS hf8 ht8 hft hl0 (fun k hk => by unfold pq_lv; omega) (fun k hk => by unfold pq_lv; omega) (u := Int32.ofNat k)
            have er : ((20 : Int32) - g (16 + 6 * t)) = Int32.ofNat (20 - Lt) := by rw [d2, Int32.ofNat_sub _ _ c2]; rfl
            have hVV : (Int32.ofNat k ≤ 20 - g (16 + 6 * t)) → pq_V (pq_pr g f t (Int32.ofNat k) (pq_hi g f (Int32.ofNat k))) n p (Bd + 1) := by
              intro hr
              rw [er] at hr
              have z2 : k ≤ 20 - Lt := (pq_le (by omega) (by omega)).mp hr
              have gN : ∀ j, (j < 16 + 6 * f ∨ 21 + 6 * f ≤ j) → (j < 16 + 6 * t ∨ 21 + 6 * t ≤ j) → pq_pr g f t (Int32.ofNat k) (pq_hi g f (Int32.ofNat k)) j = g j := fun j j1 j2 => by
                unfold pq_pr
                rw [pq_udN (by omega), pq_udN (by omega), pq_goN j j1, pq_vtN j (by omega)]
              have Bf := pq_VB hV hf
              have Bt := pq_VB hV ht
              refine pq_Vn hV ⟨by rw [gN _ (by omega) (by omega)]; exact pq_v0 hV, h8⟩ ⟨by rw [gN _ (by omega) (by omega)]; exact pq_v1 hV, h4⟩ (Or.inl (gN _ (by omega) (by omega))) (Or.inl (gN _ (by omega) (by omega))) (Or.inl (gN _ (by omega) (by omega))) (fun r hr => Or.inl (gN _ (by omega) (by omega))) (fun b hb => ?_) (fun j hj => Or.inl ⟨hj, gN _ (by omega) (by omega), gN _ (by omega) (by omega)⟩)
              by_cases ef : b = f
              · subst ef
                refine Or.inr ?_
                have gB : ∀ j, (j < 18 + 6 * t ∨ 21 + 6 * t ≤ j) → pq_vt1 g b t j = g j := fun j hj => pq_vtN j hj
                have Bf' : pq_vB (g 3) (pq_vt1 g b t (15 + 6 * b)) (pq_vt1 g b t (16 + 6 * b)) (pq_vt1 g b t (17 + 6 * b)) (pq_vt1 g b t (18 + 6 * b)) (pq_vt1 g b t (19 + 6 * b)) (pq_vt1 g b t (20 + 6 * b)) (Bd + 1) := by
                  rw [gB _ (by omega), gB _ (by omega), gB _ (by omega), gB _ (by omega), gB _ (by omega), gB _ (by omega)]
                  exact ⟨Bf.1, Bf.2.1, ⟨Bf.2.2.1.1, by have := Bf.2.2.1.2; omega⟩, Bf.2.2.2⟩
                have z := pq_goV (g := pq_vt1 g b t) (b := b) (hl := pq_hi g b (Int32.ofNat k)) Bf' (pq_v3 hV).1 a1 a2 z1 (by omega) w1 w3 (by rw [gB _ (by omega)]; exact b1) (by rw [gB _ (by omega)]; exact b2) ew
                rw [gN 3 (by omega) (by omega)]
                unfold pq_pr
                simp (disch := omega) only [pq_udN]
                exact z
              · by_cases et : b = t
                · subst et
                  refine Or.inr ?_
                  have hLf : g (16 + 6 * f) ≠ 0 := fun q => by
                    rw [b2] at q
                    have := (pq_eq (by omega) (show 0 < 2147483648 by decide)).mp q
                    omega
                  have e16 : pq_pr g f b (Int32.ofNat k) (pq_hi g f (Int32.ofNat k)) (16 + 6 * b) = Int32.ofNat (Lt + k) := by unfold pq_pr; rw [pq_udE, d2, Int32.ofNat_add]
                  have e17 : pq_pr g f b (Int32.ofNat k) (pq_hi g f (Int32.ofNat k)) (17 + 6 * b) = Int32.ofNat (Ht + W) := by unfold pq_pr; rw [pq_udN (by omega), pq_udE, d1, ew, Int32.ofNat_add]
                  have eo : ∀ j, (18 + 6 * b ≤ j ∧ j < 21 + 6 * b) → pq_pr g f b (Int32.ofNat k) (pq_hi g f (Int32.ofNat k)) j = pq_vt1 g f b j := fun j hj => by unfold pq_pr; rw [pq_udN (by omega), pq_udN (by omega), pq_goN j (by omega)]
                  have y := pq_vtE (g := g) (f := f) (t := b)
                  rw [gN 3 (by omega) (by omega), gN (15 + 6 * b) (by omega) (by omega), e16, e17, eo _ (by omega), eo _ (by omega), eo _ (by omega), y.1, y.2.1, y.2.2]
                  refine ⟨Bt.1, ⟨by rw [pq_ti (by omega)]; omega, by rw [pq_ti (by omega), pq_ti (by omega)]; omega, by rw [pq_ti (by omega)]; omega⟩, ?_, ?_, ?_, fun q => by have := (pq_eq (by omega) (show 0 < 2147483648 by decide)).mp q; omega, fun _ => ?_⟩
                  · split
                    · exact ⟨Bf.2.2.1.1, by have := Bf.2.2.1.2; omega⟩
                    · exact ⟨Bt.2.2.1.1, by have := Bt.2.2.1.2; omega⟩
                  · split
                    · exact Bf.2.2.2.1
                    · exact Bt.2.2.2.1
                  · split
                    · exact Bf.2.2.2.2.1
                    · exact Bt.2.2.2.2.1
                  · split
                    · exact Bf.2.2.2.2.2.2 hLf
                    · rename_i q; exact Bt.2.2.2.2.2.2 q
                · refine Or.inl ⟨hb, fun k' hk' => gN _ (by omega) (by omega)⟩
            by_cases h5 : g (16 + 6 * t) = 0
            · by_cases h6 : Int32.ofNat k ≤ 20 - g (16 + 6 * t)
              · have hVV := hVV h6
                have h6z : Int32.ofNat k ≤ 20 - 0 := by rw [← h5]; exact h6
                refine Or.inr ⟨g (16 + 6 * t) + Int32.ofNat k, s1, pq_pr g f t (Int32.ofNat k) (pq_hi g f (Int32.ofNat k)), n, p, by rw [eLt, ← Int32.ofNat_add]; exact pa_nnN (by omega), ?_, fun a ha => r3 a (by omega) (by omega), pq_SR r2 h8 h4 (fun j hj hl => hl), hVV, ⟨f, t, k, hf, ht, hft, k1, k20, k4, h6, Or.inl h5, rfl, rfl, rfl⟩⟩
                · simp (disch := omega) only [f_X7_pourOver, q1_has hR, q8_out, q5_bec, pq_kb hK, pq_b1 hR, pq_b2 hR, pq_b3 hR, q0_empty, f_X0_room, f_X0_isFreeFor, pq_w0 hX, pq_w1 hX, pq_k0 hK, pq_k1 hK, pq_k3 hK, pq_k4 hK, pq_kp hK, pq_ks hK, pq_bd, pq_ck, pq_bx, rc_lt, pq_i10, pq_i01, not_false_eq_true, not_true_eq_false, and_self, and_true, true_and, and_false, false_and, or_true, true_or, or_false, false_or, if_true, if_false, ↓reduceIte, Decidable.not_not, ne_eq, Int32.reduceLE, Int32.reduceLT, pq_nes, eq_self, pq_c0 hR, pq_in, pq_cl, h1, h2, he, h3, k4, h5, h6z, r1, r4]
              · refine Or.inl ⟨7, 20 - g (16 + 6 * t), trivial, ?_⟩
                · simp (disch := omega) only [f_X7_pourOver, q1_has hR, q8_out, q5_bec, pq_kb hK, pq_b1 hR, pq_b2 hR, pq_b3 hR, q0_empty, f_X0_room, f_X0_isFreeFor, pq_w0 hX, pq_w1 hX, pq_k0 hK, pq_k1 hK, pq_k3 hK, pq_k4 hK, pq_kp hK, pq_ks hK, pq_bd, pq_ck, pq_bx, rc_lt, pq_i10, pq_i01, not_false_eq_true, not_true_eq_false, and_self, and_true, true_and, and_false, false_and, or_true, true_or, or_false, false_or, if_true, if_false, ↓reduceIte, Decidable.not_not, ne_eq, Int32.reduceLE, Int32.reduceLT, pq_nes, eq_self, pq_c0 hR, pq_in, pq_cl, h1, h2, he, h3, k4, h5, show ¬ Int32.ofNat k ≤ 20 - 0 from by rw [← h5]; exact h6]
            · by_cases h7 : g (18 + 6 * t) = g (18 + 6 * f)
              · by_cases h6 : Int32.ofNat k ≤ 20 - g (16 + 6 * t)
                · have hVV := hVV h6
                  refine Or.inr ⟨g (16 + 6 * t) + Int32.ofNat k, s1, pq_pr g f t (Int32.ofNat k) (pq_hi g f (Int32.ofNat k)), n, p, by rw [eLt, ← Int32.ofNat_add]; exact pa_nnN (by omega), ?_, fun a ha => r3 a (by omega) (by omega), pq_SR r2 h8 h4 (fun j hj hl => hl), hVV, ⟨f, t, k, hf, ht, hft, k1, k20, k4, h6, Or.inr h7, rfl, rfl, rfl⟩⟩
                  · simp (disch := omega) only [f_X7_pourOver, q1_has hR, q8_out, q5_bec, pq_kb hK, pq_b1 hR, pq_b2 hR, pq_b3 hR, q0_empty, f_X0_room, f_X0_isFreeFor, pq_w0 hX, pq_w1 hX, pq_k0 hK, pq_k1 hK, pq_k3 hK, pq_k4 hK, pq_kp hK, pq_ks hK, pq_bd, pq_ck, pq_bx, rc_lt, pq_i10, pq_i01, not_false_eq_true, not_true_eq_false, and_self, and_true, true_and, and_false, false_and, or_true, true_or, or_false, false_or, if_true, if_false, ↓reduceIte, Decidable.not_not, ne_eq, Int32.reduceLE, Int32.reduceLT, pq_nes, eq_self, pq_c0 hR, pq_in, pq_cl, h1, h2, he, h3, k4, h5, h6, h7, r1, r4]
                · refine Or.inl ⟨7, 20 - g (16 + 6 * t), trivial, ?_⟩
                  · simp (disch := omega) only [f_X7_pourOver, q1_has hR, q8_out, q5_bec, pq_kb hK, pq_b1 hR, pq_b2 hR, pq_b3 hR, q0_empty, f_X0_room, f_X0_isFreeFor, pq_w0 hX, pq_w1 hX, pq_k0 hK, pq_k1 hK, pq_k3 hK, pq_k4 hK, pq_kp hK, pq_ks hK, pq_bd, pq_ck, pq_bx, rc_lt, pq_i10, pq_i01, not_false_eq_true, not_true_eq_false, and_self, and_true, true_and, and_false, false_and, or_true, true_or, or_false, false_or, if_true, if_false, ↓reduceIte, Decidable.not_not, ne_eq, Int32.reduceLE, Int32.reduceLT, pq_nes, eq_self, pq_c0 hR, pq_in, pq_cl, h1, h2, he, h3, k4, h5, h6, h7]
              · refine Or.inl ⟨9, g (18 + 6 * t), trivial, ?_⟩
                · simp (disch := omega) only [f_X7_pourOver, q1_has hR, q8_out, q5_bec, pq_kb hK, pq_b1 hR, pq_b2 hR, pq_b3 hR, q0_empty, f_X0_room, f_X0_isFreeFor, pq_w0 hX, pq_w1 hX, pq_k0 hK, pq_k1 hK, pq_k3 hK, pq_k4 hK, pq_kp hK, pq_ks hK, pq_bd, pq_ck, pq_bx, rc_lt, pq_i10, pq_i01, not_false_eq_true, not_true_eq_false, and_self, and_true, true_and, and_false, false_and, or_true, true_or, or_false, false_or, if_true, if_false, ↓reduceIte, Decidable.not_not, ne_eq, Int32.reduceLE, Int32.reduceLT, pq_nes, eq_self, pq_c0 hR, pq_in, pq_cl, h1, h2, he, h3, k4, h5, h7]
          · refine Or.inl ⟨6, g (16 + 6 * f), trivial, ?_⟩
            · simp (disch := omega) only [f_X7_pourOver, q1_has hR, q8_out, q5_bec, pq_kb hK, pq_b1 hR, pq_b2 hR, pq_b3 hR, q0_empty, f_X0_room, f_X0_isFreeFor, pq_w0 hX, pq_w1 hX, pq_k0 hK, pq_k1 hK, pq_k3 hK, pq_k4 hK, pq_kp hK, pq_ks hK, pq_bd, pq_ck, pq_bx, rc_lt, pq_i10, pq_i01, not_false_eq_true, not_true_eq_false, and_self, and_true, true_and, and_false, false_and, or_true, true_or, or_false, false_or, if_true, if_false, ↓reduceIte, Decidable.not_not, ne_eq, Int32.reduceLE, Int32.reduceLT, pq_nes, eq_self, pq_c0 hR, pq_in, pq_cl, h1, h2, he, h3, k4]
        · refine Or.inl ⟨1, 0, trivial, ?_⟩
          · simp (disch := omega) only [f_X7_pourOver, q1_has hR, q8_out, q5_bec, pq_kb hK, pq_b1 hR, pq_b2 hR, pq_b3 hR, q0_empty, f_X0_room, f_X0_isFreeFor, pq_w0 hX, pq_w1 hX, pq_k0 hK, pq_k1 hK, pq_k3 hK, pq_k4 hK, pq_kp hK, pq_ks hK, pq_bd, pq_ck, pq_bx, rc_lt, pq_i10, pq_i01, not_false_eq_true, not_true_eq_false, and_self, and_true, true_and, and_false, false_and, or_true, true_or, or_false, false_or, if_true, if_false, ↓reduceIte, Decidable.not_not, ne_eq, Int32.reduceLE, Int32.reduceLT, pq_nes, eq_self, pq_c0 hR, pq_in, pq_cl, h1, h2, he, if_neg h3]
    · refine Or.inl ⟨3, g 0, trivial, ?_⟩
      · simp (disch := omega) only [f_X7_pourOver, q1_has hR, q8_out, q5_bec, pq_kb hK, pq_b1 hR, pq_b2 hR, pq_b3 hR, q0_empty, f_X0_room, f_X0_isFreeFor, pq_w0 hX, pq_w1 hX, pq_k0 hK, pq_k1 hK, pq_k3 hK, pq_k4 hK, pq_kp hK, pq_ks hK, pq_bd, pq_ck, pq_bx, rc_lt, pq_i10, pq_i01, not_false_eq_true, not_true_eq_false, and_self, and_true, true_and, and_false, false_and, or_true, true_or, or_false, false_or, if_true, if_false, ↓reduceIte, Decidable.not_not, ne_eq, Int32.reduceLE, Int32.reduceLT, pq_nes, eq_self, pq_c0 hR, pq_in, pq_cl, h1, if_neg h2]
  · refine Or.inl ⟨3, g 0, trivial, ?_⟩
    · simp (disch := omega) only [f_X7_pourOver, q1_has hR, q8_out, q5_bec, pq_kb hK, pq_b1 hR, pq_b2 hR, pq_b3 hR, q0_empty, f_X0_room, f_X0_isFreeFor, pq_w0 hX, pq_w1 hX, pq_k0 hK, pq_k1 hK, pq_k3 hK, pq_k4 hK, pq_kp hK, pq_ks hK, pq_bd, pq_ck, pq_bx, rc_lt, pq_i10, pq_i01, not_false_eq_true, not_true_eq_false, and_self, and_true, true_and, and_false, false_and, or_true, true_or, or_false, false_or, if_true, if_false, ↓reduceIte, Decidable.not_not, ne_eq, Int32.reduceLE, Int32.reduceLT, pq_nes, eq_self, pq_c0 hR, pq_in, pq_cl, if_neg h1]
theorem pa_storm (hX : pq_X rf x) {u h : Int32} : pa_Op x (f_X7_letStormBy rf (x + 1) u h) (¬ ((¬ u < 1 ∧ ¬ 9 < u) ∧ ¬ h < 0 ∧ ¬ 3 < h)) (fun g n p v g' n' p' => ∃ s T A kb G, 1 ≤ s ∧ s ≤ 9 ∧ u = Int32.ofNat s ∧ g 4 = Int32.ofNat T ∧ T ≤ 900 ∧ A ≤ 144 ∧ v = Int32.ofNat A ∧ kb ≤ 9 ∧ pq_rs (Int32.ofNat s) n 0 4 0 g = (Int32.ofNat A, G) ∧ G 7 = g 7 + (10 * Int32.ofNat s - Int32.ofNat A) ∧ pq_V G n p 900 ∧ g' = upd (upd (upd (upd (upd (upd (upd G 5 (g 5 + Int32.ofNat A)) 7 (G 7)) 2 (Int32.ofNat kb)) (71 + 3 * (T % 12) + 0) (Int32.ofNat s)) (71 + 3 * (T % 12) + 1) (g 3)) (71 + 3 * (T % 12) + 2) (Int32.ofNat A)) 4 (Int32.ofNat (T + 1)) ∧ n' = n ∧ p' = p) := by
  intro σ n p Bd g hR hV hB9
  have hB : Bd ≤ 900 := by omega
  have hK := pq_xk hX
  have h8 := pq_vn hV
  have h4 := pq_vp hV
  have hS := pq_RS hR h8 h4
  by_cases h1 : ¬ u < 1 ∧ ¬ 9 < u
  · by_cases h2 : ¬ h < 0 ∧ ¬ 3 < h
    · obtain ⟨s, s1, s9, rfl⟩ := pq_9 h1
      obtain ⟨hh, hh4, rfl⟩ := pq_4b h2
      have hS7 : pq_S σ (x + 2) g (fun i => pq_lv n p i ∧ i ≠ 7) := fun i hi hl => hS i hi hl.1
      obtain ⟨t, e1, e2, e3⟩ := qo_s7 (n := n) hX h8 (S := fun i => pq_lv n p i ∧ i ≠ 7) (fun q => q.2 rfl) ⟨Or.inl (by omega), by omega⟩ ⟨Or.inl (by omega), by omega⟩ ⟨Or.inl (by omega), by omega⟩ (fun r hr => ⟨Or.inl (by omega), by omega⟩) (fun b hb k hk => ⟨Or.inr (Or.inl (by omega)), by omega⟩) (Int32.ofNat s) (Int32.ofNat hh) 4 (99999 - 4) 0 σ g 0 (by omega) hS7 (pq_v0 hV)
      rw [← pq_fu 4 (by omega), show Int32.ofNat 0 = (0 : Int32) from rfl] at e1
      obtain ⟨A, hA, eA⟩ := pq_rsA (n := n) s9 4 0 0 g (by omega)
      rw [show Int32.ofNat 0 = (0 : Int32) from rfl] at eA
      have e7 := pq_rs7 (n := n) (s := Int32.ofNat s) 4 0 0 0 g (by omega)
      have V5 := pq_rsV (n := n) (p := p) hB s9 4 0 0 g (by omega) hV
      have gN : ∀ j, j ≠ 7 → (j < 11 ∨ 15 + 6 * n ≤ j) → (pq_rs (Int32.ofNat s) n 0 4 0 g).2 j = g j := fun j h7 hj => pq_rsN 4 0 0 g j (by omega) h7 hj
      have fdE : pq_fd (fun r a => a + (Int32.ofNat r + 1) * Int32.ofNat s) 0 4 0 = 10 * Int32.ofNat s := by simp only [pq_fd]; rw [pq_10s]
      rw [fdE] at e7
      rw [eA] at e1 e7
      generalize hG : (pq_rs (Int32.ofNat s) n 0 4 0 g).2 = G at e2 e7 V5 gN
      generalize hA2 : (pq_rs (Int32.ofNat s) n 0 4 0 g).1 = A2 at eA
      have eL : g 7 + (10 * Int32.ofNat s - Int32.ofNat A) = G 7 := pq_eL e7
      have tc : t (x + 2) = σ (x + 2) := e3 _ (by omega) (by omega)
      obtain ⟨T, hT, eT⟩ := pq_natL (n := Bd) (pq_v4 hV).1 (pq_v4 hV).2 (by omega)
      obtain ⟨Bk, hBk, eB⟩ := pq_natL (n := 9) (pq_v2 hV).1 (pq_v2 hV).2 (by decide)
      have hq := pq_m12 (s := T)
      have eb : ∃ k, k ≤ 9 ∧ (if (9 : Int32) < g 2 + 2 * Int32.ofNat hh then 9 else g 2 + 2 * Int32.ofNat hh) = Int32.ofNat k := by
        have e : g 2 + 2 * Int32.ofNat hh = Int32.ofNat (Bk + 2 * hh) := by rw [eB, Int32.ofNat_add, Int32.ofNat_mul]; rfl
        rw [e]
        by_cases h9 : 9 < Bk + 2 * hh
        · rw [if_pos (show (9 : Int32) < Int32.ofNat (Bk + 2 * hh) from (pq_lt (n := 9) (by decide) (by omega)).mpr h9)]; exact ⟨9, by omega, rfl⟩
        · rw [if_neg (show ¬ (9 : Int32) < Int32.ofNat (Bk + 2 * hh) from fun q => h9 ((pq_lt (n := 9) (by decide) (by omega)).mp q))]; exact ⟨_, by omega, rfl⟩
      obtain ⟨kb, hkb, ekb⟩ := eb
      refine Or.inr ⟨Int32.ofNat A, rc_up (rc_up (rc_up (rc_up (rc_up (rc_up (rc_up t (x + 2) 8 (g 5 + Int32.ofNat A)) (x + 2) 10 (G 7)) (x + 2) 6 (Int32.ofNat kb)) (x + 2 + 15 + T % 12) 0 (Int32.ofNat s)) (x + 2 + 15 + T % 12) 1 (g 3)) (x + 2 + 15 + T % 12) 2 (Int32.ofNat A)) (x + 2) 5 (Int32.ofNat (T + 1)), upd (upd (upd (upd (upd (upd (upd G 5 (g 5 + Int32.ofNat A)) 7 (G 7)) 2 (Int32.ofNat kb)) (71 + 3 * (T % 12) + 0) (Int32.ofNat s)) (71 + 3 * (T % 12) + 1) (g 3)) (71 + 3 * (T % 12) + 2) (Int32.ofNat A)) 4 (Int32.ofNat (T + 1)), n, p, pa_nnN (by omega), ?_, fun a ha => by simp (disch := omega) only [pq_upN]; exact e3 a (by omega) (by omega), pq_SR (pq_Sc4 (pq_Sq (pq_Sq (pq_Sq (pq_Sc2 (pq_Sc7 (pq_Sc5 e2 _) _) _) hq 0 (by omega) _) hq 1 (by omega) _) hq 2 (by omega) _) _) h8 h4 (fun j hj hl => ?_), ?_, ⟨s, T, A, kb, G, s1, s9, rfl, eT, by omega, by omega, rfl, hkb, Prod.ext (hA2.trans eA) hG, eL.symm, pq_Vm V5 (by omega), rfl, rfl, rfl⟩⟩
      · rw [f_X7_letStormBy, q8_out, if_pos h1, pq_bd, if_pos rfl, q8_out, if_pos h2, pq_bd, if_pos rfl, e1, pq_w0 hX, rc_lt, q8_allRoofs, pq_bd]
        simp (disch := omega) only [q8_out, q5_bec, pq_w0 hX, pq_w1 hX, pq_k0 hK, pq_k1 hK, pq_k3 hK, pq_k4 hK, pq_kp hK, pq_ks hK, pq_bd, pq_ck, pq_bx, rc_lt, pq_i10, pq_i01, not_false_eq_true, not_true_eq_false, and_self, and_true, true_and, and_false, false_and, or_true, true_or, or_false, false_or, if_true, if_false, ↓reduceIte, Decidable.not_not, ne_eq, Int32.reduceLE, Int32.reduceLT, pq_nes, eq_self, tc, pq_c5 hR, pq_c7 hR, pq_c2 hR, pq_upE, pq_udN, pq_upN, eL, ekb, f_X7_tell, f_X1_rainfallOf, pq_c4 hR, eT, pq_fm12, pq_in, pq_cl, pq_kr hK, pq_c3 hR, pq_s]
      · by_cases hj7 : j = 7
        · subst hj7; exact Or.inl (Or.inl (Or.inl (Or.inl (Or.inl (Or.inr rfl)))))
        · exact Or.inl (Or.inl (Or.inl (Or.inl (Or.inl (Or.inl (Or.inl ⟨hl, hj7⟩))))))
      · refine pq_Vn V5 ⟨by simp (disch := omega) only [pq_udN]; exact pq_v0 V5, h8⟩ ⟨by simp (disch := omega) only [pq_udN]; exact pq_v1 V5, h4⟩ (Or.inr (by simp (disch := omega) only [pq_udN, pq_udE]; rw [pq_ti (by omega)]; omega)) (Or.inl (by simp (disch := omega) only [pq_udN])) (Or.inr (by rw [pq_udE, pq_ti (by omega)]; omega)) (fun r hr => Or.inl (by simp (disch := omega) only [pq_udN])) (fun b hb => Or.inl ⟨hb, fun k hk => by simp (disch := omega) only [pq_udN]⟩) (fun j hj => Or.inl ⟨hj, by simp (disch := omega) only [pq_udN], by simp (disch := omega) only [pq_udN]⟩)
    · refine Or.inl ⟨1, 0, fun q => h2 q.2, ?_⟩
      · rw [f_X7_letStormBy, q8_out, if_pos h1, pq_bd, if_pos rfl, q8_out, if_neg h2, pq_bd, if_neg (by decide), pq_w1 hX, q5_bec, pq_bd]
  · refine Or.inl ⟨1, 0, fun q => h1 q.1, ?_⟩
    · rw [f_X7_letStormBy, q8_out, if_neg h1, pq_bd, if_neg (by decide), pq_w1 hX, q5_bec, pq_bd]
end PAOP
