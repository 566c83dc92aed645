theorem pq_Rf {σ σ' : rc_S} {c n p : Nat} {g : Nat → Int32} (h : pq_R σ c g n p) (hn : n ≤ 8) (hf : ∀ a, c ≤ a → a < c + 27 → σ' a = σ a) : pq_R σ' c g n p := by
  obtain ⟨⟨h0, h1, h2, h3, h4, h5, h6, h7, h8, h9, h10⟩, hm, hb, hp, hq⟩ := h
  have e0 := hf c (by omega) (by omega)
  refine ⟨⟨by rw [e0]; exact h0, by rw [hf _ (by omega) (by omega)]; exact h1, by rw [e0]; exact h2, by rw [e0]; exact h3, by rw [e0]; exact h4, by rw [e0]; exact h5, by rw [e0]; exact h6, by rw [e0]; exact h7, by rw [e0]; exact h8, by rw [e0]; exact h9, by rw [e0]; exact h10⟩, fun r hr => ?_, fun b hb' => ?_, fun j hj => ?_, fun q hq' => ?_⟩
  · rw [hf _ (by omega) (by omega)]; exact hm r hr
  · rw [hf (c + 7 + b) (by omega) (by omega)]; exact hb b hb'
  · rw [hf (c + 4) (by omega) (by omega), hf (c + 5) (by omega) (by omega)]; exact hp j hj
  · rw [hf (c + 15 + q) (by omega) (by omega)]; exact hq q hq'
/-- what is written: the class's text and the reference's -/
def pq_W (A : Option (Nat × Int32 × rc_S)) (B : rc_S → Option (Int32 × rc_S)) (σ : rc_S) (x : Nat) (L0 : List Nat) (P : Nat → Int32 → Prop) : Prop := ∃ (k : Nat) (r : Int32) (σ1 : rc_S) (cd b : Int32) (σ2 : rc_S) (L : List Nat), A = some (k, r, σ1) ∧ B σ1 = some (b, σ2) ∧ P k cd ∧ σ2 (x + 308) 0 = cd ∧ (k = 0 → r = b) ∧ (∀ a, a ≠ x + 306 → a ≠ x + 307 → σ1 a = σ a) ∧ (∀ a, a ≠ x + 308 → a ≠ x + 308 + 7 → σ2 a = σ1 a) ∧ (∀ j, j ≠ 0 → j ≠ 11 → σ2 (x + 308) j = σ1 (x + 308) j) ∧ pq_OC σ1 x L ∧ pq_OR σ2 (x + 308) L
section PQL
variable {rf : rc_F} {σ : rc_S} {x : Nat} {g : Nat → Int32} {n p N b : Nat} {L0 : List Nat}
theorem pq_byN (hV : pq_V g n p N) (hb : b < n) (hN : N ≤ 999) (h0 : g (16 + 6 * b) ≠ 0) : ∃ S, S ≤ 999 ∧ g (18 + 6 * b) = Int32.ofNat S := by
  obtain ⟨S, hS, e⟩ := pq_natL (n := N) (pq_vb0 hV hb h0) (pq_vby hV hb).2 (by omega)
  exact ⟨S, by omega, e⟩
theorem pq_rN (hV : pq_V g n p N) (hb : b < n) : ∃ S, S ≤ 3 ∧ g (15 + 6 * b) = Int32.ofNat S := pq_natL (n := 3) (pq_vr hV hb).1 (pq_vr hV hb).2 (by omega)

theorem q_line (hX : pq_X rf x) (hR : pq_R σ (x + 2) g n p) (hV : pq_V g n p N) (hg : σ (x + 308 + 1) = g) (hN : N ≤ 999) (hOC : pq_OC σ x L0) (hOR : pq_OR σ (x + 308) L0) {u1 : Int32} : pq_W (f_X8_line rf x u1 σ) (f_X9_line rf (x + 308) u1) σ x L0 (fun k cd => (k = 0 ∧ cd = 0) ∨ (k = 2 ∧ cd = 1)) := by
  have hK := pq_xk hX
  have hM := pq_xm hX
  have h8 := pq_vn hV
  have h4 := pq_vp hV
  by_cases h1 : ¬ u1 < 0 ∧ u1 < g 0
  · obtain ⟨b, hb, rfl⟩ := pq_ub hV h1
    have hb8 : b < 8 := by omega
    obtain ⟨Ha, Li, Ta, a1, a2, a3, q17, q16, q19⟩ := pq_bN hV hb
    obtain ⟨Ro, a4, q15⟩ := pq_rN hV hb
    have h15 := pq_b0 hR hb
    have h16 := pq_b1 hR hb
    have h17 := pq_b2 hR hb
    have h18 := pq_b3 hR hb
    have h19 := pq_b4 hR hb
    rw [q15] at h15
    rw [q16] at h16
    rw [q17] at h17
    rw [q19] at h19
    have l1 := (pq_dgl Ro).2.2 (by omega)
    have l2 := (pq_dgl Li).2.1 (by omega)
    have l3 := (pq_dgl Ta).2.2 (by omega)
    have l4 := (pq_dgl Ha).2.1 (by omega)
    have hLe : (Int32.ofNat Li = 0) ↔ Li = 0 := pq_eq (by omega) (show 0 < 2147483648 by decide)
    have hHl : (Int32.ofNat Ha ≤ 0) ↔ Ha ≤ 0 := pq_le (by omega) (show 0 < 2147483648 by decide)
    have hHe : (Int32.ofNat Ha = 0) ↔ Ha = 0 := pq_eq (by omega) (show 0 < 2147483648 by decide)
    by_cases k1 : Li = 0
    · have hLi : (Int32.ofNat Li = 0) = True := eq_true (hLe.mpr k1)
      have hHa : (Int32.ofNat Ha ≤ 0) = True := eq_true (hHl.mpr (by omega))
      obtain ⟨s0, e0, o0, f0⟩ := qs_len0 hX hOC
      have F0 : ∀ a, a ≠ x + 306 → a ≠ x + 307 → s0 a = σ a := fun a a1 a2 => f0 a a1
      obtain ⟨s1, e1, o1, f1⟩ := qs_nm hX o0 (v := Ro) (by omega) (by simp only [List.length_append, List.length_cons, List.length_nil]; omega)
      have F1 : ∀ a, a ≠ x + 306 → a ≠ x + 307 → s1 a = σ a := fun a a1 a2 => by rw [f1 a a1 a2, F0 a a1 a2]
      obtain ⟨s2, e2, o2, f2⟩ := qs_ch hX o1 (by simp only [List.length_append, List.length_cons, List.length_nil]; omega) 58 (by omega)
      rw [show Int32.ofNat 58 = (58 : Int32) from rfl] at e2
      have F2 : ∀ a, a ≠ x + 306 → a ≠ x + 307 → s2 a = σ a := fun a a1 a2 => by rw [f2 a a1 a2, F1 a a1 a2]
      obtain ⟨s3, e3, o3, f3⟩ := qs_nm hX o2 (v := Li) (by omega) (by simp only [List.length_append, List.length_cons, List.length_nil]; omega)
      have F3 : ∀ a, a ≠ x + 306 → a ≠ x + 307 → s3 a = σ a := fun a a1 a2 => by rw [f3 a a1 a2, F2 a a1 a2]
      have hg1 : s3 (x + 308 + 1) = g := by rw [F3 _ (by omega) (by omega)]; exact hg
      have hR1 : pq_OR (rc_up (rc_up s3 (x + 308) 0 0) (x + 308) 11 0) (x + 308) [] := ⟨by rw [pq_upE, pq_udE]; rfl, by simp, fun k v hv => by simp at hv⟩
      have hG0 : (rc_up (rc_up s3 (x + 308) 0 0) (x + 308) 11 0) (x + 308 + 1) = g := pq_gu (pq_gu hg1)
      obtain ⟨t1, u1, v1, w1, y1⟩ := qr_nm hM hR1 (v := Ro) (by omega) (by simp only [List.length_append, List.length_cons, List.length_nil]; omega)
      have G1 : t1 (x + 308 + 1) = g := by rw [w1 _ (by omega) (by omega)]; exact hG0
      obtain ⟨t2, u2, v2, w2, y2⟩ := qr_ch hM v1 (by simp only [List.length_append, List.length_cons, List.length_nil]; omega) (c := 58) (d := 58) rfl
      have G2 : t2 (x + 308 + 1) = g := by rw [w2 _ (by omega) (by omega)]; exact G1
      obtain ⟨t3, u3, v3, w3, y3⟩ := qr_nm hM v2 (v := Li) (by omega) (by simp only [List.length_append, List.length_cons, List.length_nil]; omega)
      have G3 : t3 (x + 308 + 1) = g := by rw [w3 _ (by omega) (by omega)]; exact G2
      refine ⟨0, Int32.ofNat (([] : List Nat) ++ pq_dg Ro ++ [58] ++ pq_dg Li).length, s3, 0, Int32.ofNat (([] : List Nat) ++ pq_dg Ro ++ [58] ++ pq_dg Li).length, t3, ([] : List Nat) ++ pq_dg Ro ++ [58] ++ pq_dg Li, ?_, ?_, Or.inl ⟨rfl, rfl⟩, ?_, fun _ => rfl, F3, ?_, ?_, o3, v3⟩
      · have R0_0 : s0 (x + 2 + 7 + b) 0 = Int32.ofNat Ro := by rw [F0 _ (by omega) (by omega)]; exact h15
        have R2_1 : s2 (x + 2 + 7 + b) 1 = Int32.ofNat Li := by rw [F2 _ (by omega) (by omega)]; exact h16
        have R3_1 : s3 (x + 2 + 7 + b) 1 = Int32.ofNat Li := by rw [F3 _ (by omega) (by omega)]; exact h16
        have R3_2 : s3 (x + 2 + 7 + b) 2 = Int32.ofNat Ha := by rw [F3 _ (by omega) (by omega)]; exact h17
        rw [f_X8_line, q8_ex hX hR hV hb h1, pq_bx, pq_x8 hX, e0, pq_bd]
        simp only [R0_0, e1, pq_bd, e2, R2_1, e3, q0_empty, R3_1, pq_i10, hLi]
        simp only [not_true_eq_false, if_false, R3_2, hHa, if_true, qs_lng o3, pq_bd]
      · rw [f_X9_line, q9_isB hM hg1 hV, if_pos h1, pq_bd, if_neg (by decide), rc_lt, pq_upE, pq_udE, if_pos (by decide), rc_lt]
        simp only [q9_of0 hM hG0 hb8, pq_bd, q15, u1, u2, q9_of1 hM G2 hb8, q16, u3, q9_of1 hM G3 hb8, hLi, if_true, if_false]
        rw [v3.1]
      · rw [y3 _ (by decide), y2 _ (by decide), y1 _ (by decide), pq_upE, pq_udN (by decide), pq_upE, pq_udE]
      · intro a a1 a2; rw [w3 a a1 a2, w2 a a1 a2, w1 a a1 a2, pq_upN a1, pq_upN a1]
      · intro j j1 j2; rw [y3 j j2, y2 j j2, y1 j j2, pq_upE, pq_udN j2, pq_upE, pq_udN j1]
    · have hLi : (Int32.ofNat Li = 0) = False := eq_false (fun q => k1 (hLe.mp q))
      obtain ⟨St, a5, q18⟩ := pq_byN hV hb hN (by rw [q16]; exact fun q => k1 (hLe.mp q))
      rw [q18] at h18
      have l5 := (pq_dgl St).1
      by_cases k2 : Ha = 0
      · have hHa : (Int32.ofNat Ha ≤ 0) = True := eq_true (hHl.mpr (by omega))
        have hH0 : (Int32.ofNat Ha = 0) = True := eq_true (hHe.mpr k2)
        obtain ⟨s0, e0, o0, f0⟩ := qs_len0 hX hOC
        have F0 : ∀ a, a ≠ x + 306 → a ≠ x + 307 → s0 a = σ a := fun a a1 a2 => f0 a a1
        obtain ⟨s1, e1, o1, f1⟩ := qs_nm hX o0 (v := Ro) (by omega) (by simp only [List.length_append, List.length_cons, List.length_nil]; omega)
        have F1 : ∀ a, a ≠ x + 306 → a ≠ x + 307 → s1 a = σ a := fun a a1 a2 => by rw [f1 a a1 a2, F0 a a1 a2]
        obtain ⟨s2, e2, o2, f2⟩ := qs_ch hX o1 (by simp only [List.length_append, List.length_cons, List.length_nil]; omega) 58 (by omega)
        rw [show Int32.ofNat 58 = (58 : Int32) from rfl] at e2
        have F2 : ∀ a, a ≠ x + 306 → a ≠ x + 307 → s2 a = σ a := fun a a1 a2 => by rw [f2 a a1 a2, F1 a a1 a2]
        obtain ⟨s3, e3, o3, f3⟩ := qs_nm hX o2 (v := Li) (by omega) (by simp only [List.length_append, List.length_cons, List.length_nil]; omega)
        have F3 : ∀ a, a ≠ x + 306 → a ≠ x + 307 → s3 a = σ a := fun a a1 a2 => by rw [f3 a a1 a2, F2 a a1 a2]
        obtain ⟨s4, e4, o4, f4⟩ := qs_ch hX o3 (by simp only [List.length_append, List.length_cons, List.length_nil]; omega) 35 (by omega)
        rw [show Int32.ofNat 35 = (35 : Int32) from rfl] at e4
        have F4 : ∀ a, a ≠ x + 306 → a ≠ x + 307 → s4 a = σ a := fun a a1 a2 => by rw [f4 a a1 a2, F3 a a1 a2]
        obtain ⟨s5, e5, o5, f5⟩ := qs_nm hX o4 (v := St) (by omega) (by simp only [List.length_append, List.length_cons, List.length_nil]; omega)
        have F5 : ∀ a, a ≠ x + 306 → a ≠ x + 307 → s5 a = σ a := fun a a1 a2 => by rw [f5 a a1 a2, F4 a a1 a2]
        obtain ⟨s6, e6, o6, f6⟩ := qs_ch hX o5 (by simp only [List.length_append, List.length_cons, List.length_nil]; omega) 109 (by omega)
        rw [show Int32.ofNat 109 = (109 : Int32) from rfl] at e6
        have F6 : ∀ a, a ≠ x + 306 → a ≠ x + 307 → s6 a = σ a := fun a a1 a2 => by rw [f6 a a1 a2, F5 a a1 a2]
        obtain ⟨s7, e7, o7, f7⟩ := qs_nm hX o6 (v := Ta) (by omega) (by simp only [List.length_append, List.length_cons, List.length_nil]; omega)
        have F7 : ∀ a, a ≠ x + 306 → a ≠ x + 307 → s7 a = σ a := fun a a1 a2 => by rw [f7 a a1 a2, F6 a a1 a2]
        have hg1 : s7 (x + 308 + 1) = g := by rw [F7 _ (by omega) (by omega)]; exact hg
        have hR1 : pq_OR (rc_up (rc_up s7 (x + 308) 0 0) (x + 308) 11 0) (x + 308) [] := ⟨by rw [pq_upE, pq_udE]; rfl, by simp, fun k v hv => by simp at hv⟩
        have hG0 : (rc_up (rc_up s7 (x + 308) 0 0) (x + 308) 11 0) (x + 308 + 1) = g := pq_gu (pq_gu hg1)
        obtain ⟨t1, u1, v1, w1, y1⟩ := qr_nm hM hR1 (v := Ro) (by omega) (by simp only [List.length_append, List.length_cons, List.length_nil]; omega)
        have G1 : t1 (x + 308 + 1) = g := by rw [w1 _ (by omega) (by omega)]; exact hG0
        obtain ⟨t2, u2, v2, w2, y2⟩ := qr_ch hM v1 (by simp only [List.length_append, List.length_cons, List.length_nil]; omega) (c := 58) (d := 58) rfl
        have G2 : t2 (x + 308 + 1) = g := by rw [w2 _ (by omega) (by omega)]; exact G1
        obtain ⟨t3, u3, v3, w3, y3⟩ := qr_nm hM v2 (v := Li) (by omega) (by simp only [List.length_append, List.length_cons, List.length_nil]; omega)
        have G3 : t3 (x + 308 + 1) = g := by rw [w3 _ (by omega) (by omega)]; exact G2
        obtain ⟨t4, u4, v4, w4, y4⟩ := qr_ch hM v3 (by simp only [List.length_append, List.length_cons, List.length_nil]; omega) (c := 35) (d := 35) rfl
        have G4 : t4 (x + 308 + 1) = g := by rw [w4 _ (by omega) (by omega)]; exact G3
        obtain ⟨t5, u5, v5, w5, y5⟩ := qr_nm hM v4 (v := St) (by omega) (by simp only [List.length_append, List.length_cons, List.length_nil]; omega)
        have G5 : t5 (x + 308 + 1) = g := by rw [w5 _ (by omega) (by omega)]; exact G4
        obtain ⟨t6, u6, v6, w6, y6⟩ := qr_ch hM v5 (by simp only [List.length_append, List.length_cons, List.length_nil]; omega) (c := 109) (d := 109) rfl
        have G6 : t6 (x + 308 + 1) = g := by rw [w6 _ (by omega) (by omega)]; exact G5
        obtain ⟨t7, u7, v7, w7, y7⟩ := qr_nm hM v6 (v := Ta) (by omega) (by simp only [List.length_append, List.length_cons, List.length_nil]; omega)
        have G7 : t7 (x + 308 + 1) = g := by rw [w7 _ (by omega) (by omega)]; exact G6
        refine ⟨0, Int32.ofNat (([] : List Nat) ++ pq_dg Ro ++ [58] ++ pq_dg Li ++ [35] ++ pq_dg St ++ [109] ++ pq_dg Ta).length, s7, 0, Int32.ofNat (([] : List Nat) ++ pq_dg Ro ++ [58] ++ pq_dg Li ++ [35] ++ pq_dg St ++ [109] ++ pq_dg Ta).length, t7, ([] : List Nat) ++ pq_dg Ro ++ [58] ++ pq_dg Li ++ [35] ++ pq_dg St ++ [109] ++ pq_dg Ta, ?_, ?_, Or.inl ⟨rfl, rfl⟩, ?_, fun _ => rfl, F7, ?_, ?_, o7, v7⟩
        · have R0_0 : s0 (x + 2 + 7 + b) 0 = Int32.ofNat Ro := by rw [F0 _ (by omega) (by omega)]; exact h15
          have R2_1 : s2 (x + 2 + 7 + b) 1 = Int32.ofNat Li := by rw [F2 _ (by omega) (by omega)]; exact h16
          have R3_1 : s3 (x + 2 + 7 + b) 1 = Int32.ofNat Li := by rw [F3 _ (by omega) (by omega)]; exact h16
          have R4_3 : s4 (x + 2 + 7 + b) 3 = Int32.ofNat St := by rw [F4 _ (by omega) (by omega)]; exact h18
          have R6_5 : s6 (x + 2 + 7 + b) 5 = Int32.ofNat Ta := by rw [F6 _ (by omega) (by omega)]; exact h19
          have R7_2 : s7 (x + 2 + 7 + b) 2 = Int32.ofNat Ha := by rw [F7 _ (by omega) (by omega)]; exact h17
          rw [f_X8_line, q8_ex hX hR hV hb h1, pq_bx, pq_x8 hX, e0, pq_bd]
          simp only [R0_0, e1, pq_bd, e2, R2_1, e3, q0_empty, R3_1, pq_i10, hLi]
          simp only [not_false_eq_true, if_true, e4, pq_bd, R4_3, e5, e6, R6_5, e7, R7_2, hHa]
          simp only [if_true, qs_lng o7, pq_bd]
        · rw [f_X9_line, q9_isB hM hg1 hV, if_pos h1, pq_bd, if_neg (by decide), rc_lt, pq_upE, pq_udE, if_pos (by decide), rc_lt]
          simp only [q9_of0 hM hG0 hb8, pq_bd, q15, u1, u2, q9_of1 hM G2 hb8, q16, u3, q9_of1 hM G3 hb8, hLi, if_true, if_false]
          simp only [u4, pq_bd, q9_of3 hM G4 hb8, q18, u5, u6, q9_of4 hM G6 hb8, q19, u7, q9_of2 hM G7 hb8, q17, hH0, if_true, if_false]
          rw [v7.1]
        · rw [y7 _ (by decide), y6 _ (by decide), y5 _ (by decide), y4 _ (by decide), y3 _ (by decide), y2 _ (by decide), y1 _ (by decide), pq_upE, pq_udN (by decide), pq_upE, pq_udE]
        · intro a a1 a2; rw [w7 a a1 a2, w6 a a1 a2, w5 a a1 a2, w4 a a1 a2, w3 a a1 a2, w2 a a1 a2, w1 a a1 a2, pq_upN a1, pq_upN a1]
        · intro j j1 j2; rw [y7 j j2, y6 j j2, y5 j j2, y4 j j2, y3 j j2, y2 j j2, y1 j j2, pq_upE, pq_udN j2, pq_upE, pq_udN j1]
      · have hHa : (Int32.ofNat Ha ≤ 0) = False := eq_false (fun q => k2 (by have := hHl.mp q; omega))
        have hH0 : (Int32.ofNat Ha = 0) = False := eq_false (fun q => k2 (hHe.mp q))
        obtain ⟨s0, e0, o0, f0⟩ := qs_len0 hX hOC
        have F0 : ∀ a, a ≠ x + 306 → a ≠ x + 307 → s0 a = σ a := fun a a1 a2 => f0 a a1
        obtain ⟨s1, e1, o1, f1⟩ := qs_nm hX o0 (v := Ro) (by omega) (by simp only [List.length_append, List.length_cons, List.length_nil]; omega)
        have F1 : ∀ a, a ≠ x + 306 → a ≠ x + 307 → s1 a = σ a := fun a a1 a2 => by rw [f1 a a1 a2, F0 a a1 a2]
        obtain ⟨s2, e2, o2, f2⟩ := qs_ch hX o1 (by simp only [List.length_append, List.length_cons, List.length_nil]; omega) 58 (by omega)
        rw [show Int32.ofNat 58 = (58 : Int32) from rfl] at e2
        have F2 : ∀ a, a ≠ x + 306 → a ≠ x + 307 → s2 a = σ a := fun a a1 a2 => by rw [f2 a a1 a2, F1 a a1 a2]
        obtain ⟨s3, e3, o3, f3⟩ := qs_nm hX o2 (v := Li) (by omega) (by simp only [List.length_append, List.length_cons, List.length_nil]; omega)
        have F3 : ∀ a, a ≠ x + 306 → a ≠ x + 307 → s3 a = σ a := fun a a1 a2 => by rw [f3 a a1 a2, F2 a a1 a2]
        obtain ⟨s4, e4, o4, f4⟩ := qs_ch hX o3 (by simp only [List.length_append, List.length_cons, List.length_nil]; omega) 35 (by omega)
        rw [show Int32.ofNat 35 = (35 : Int32) from rfl] at e4
        have F4 : ∀ a, a ≠ x + 306 → a ≠ x + 307 → s4 a = σ a := fun a a1 a2 => by rw [f4 a a1 a2, F3 a a1 a2]
        obtain ⟨s5, e5, o5, f5⟩ := qs_nm hX o4 (v := St) (by omega) (by simp only [List.length_append, List.length_cons, List.length_nil]; omega)
        have F5 : ∀ a, a ≠ x + 306 → a ≠ x + 307 → s5 a = σ a := fun a a1 a2 => by rw [f5 a a1 a2, F4 a a1 a2]
        obtain ⟨s6, e6, o6, f6⟩ := qs_ch hX o5 (by simp only [List.length_append, List.length_cons, List.length_nil]; omega) 109 (by omega)
        rw [show Int32.ofNat 109 = (109 : Int32) from rfl] at e6
        have F6 : ∀ a, a ≠ x + 306 → a ≠ x + 307 → s6 a = σ a := fun a a1 a2 => by rw [f6 a a1 a2, F5 a a1 a2]
        obtain ⟨s7, e7, o7, f7⟩ := qs_nm hX o6 (v := Ta) (by omega) (by simp only [List.length_append, List.length_cons, List.length_nil]; omega)
        have F7 : ∀ a, a ≠ x + 306 → a ≠ x + 307 → s7 a = σ a := fun a a1 a2 => by rw [f7 a a1 a2, F6 a a1 a2]
        obtain ⟨s8, e8, o8, f8⟩ := qs_ch hX o7 (by simp only [List.length_append, List.length_cons, List.length_nil]; omega) 104 (by omega)
        rw [show Int32.ofNat 104 = (104 : Int32) from rfl] at e8
        have F8 : ∀ a, a ≠ x + 306 → a ≠ x + 307 → s8 a = σ a := fun a a1 a2 => by rw [f8 a a1 a2, F7 a a1 a2]
        obtain ⟨s9, e9, o9, f9⟩ := qs_nm hX o8 (v := Ha) (by omega) (by simp only [List.length_append, List.length_cons, List.length_nil]; omega)
        have F9 : ∀ a, a ≠ x + 306 → a ≠ x + 307 → s9 a = σ a := fun a a1 a2 => by rw [f9 a a1 a2, F8 a a1 a2]
        have hg1 : s9 (x + 308 + 1) = g := by rw [F9 _ (by omega) (by omega)]; exact hg
        have hR1 : pq_OR (rc_up (rc_up s9 (x + 308) 0 0) (x + 308) 11 0) (x + 308) [] := ⟨by rw [pq_upE, pq_udE]; rfl, by simp, fun k v hv => by simp at hv⟩
        have hG0 : (rc_up (rc_up s9 (x + 308) 0 0) (x + 308) 11 0) (x + 308 + 1) = g := pq_gu (pq_gu hg1)
        obtain ⟨t1, u1, v1, w1, y1⟩ := qr_nm hM hR1 (v := Ro) (by omega) (by simp only [List.length_append, List.length_cons, List.length_nil]; omega)
        have G1 : t1 (x + 308 + 1) = g := by rw [w1 _ (by omega) (by omega)]; exact hG0
        obtain ⟨t2, u2, v2, w2, y2⟩ := qr_ch hM v1 (by simp only [List.length_append, List.length_cons, List.length_nil]; omega) (c := 58) (d := 58) rfl
        have G2 : t2 (x + 308 + 1) = g := by rw [w2 _ (by omega) (by omega)]; exact G1
        obtain ⟨t3, u3, v3, w3, y3⟩ := qr_nm hM v2 (v := Li) (by omega) (by simp only [List.length_append, List.length_cons, List.length_nil]; omega)
        have G3 : t3 (x + 308 + 1) = g := by rw [w3 _ (by omega) (by omega)]; exact G2
        obtain ⟨t4, u4, v4, w4, y4⟩ := qr_ch hM v3 (by simp only [List.length_append, List.length_cons, List.length_nil]; omega) (c := 35) (d := 35) rfl
        have G4 : t4 (x + 308 + 1) = g := by rw [w4 _ (by omega) (by omega)]; exact G3
        obtain ⟨t5, u5, v5, w5, y5⟩ := qr_nm hM v4 (v := St) (by omega) (by simp only [List.length_append, List.length_cons, List.length_nil]; omega)
        have G5 : t5 (x + 308 + 1) = g := by rw [w5 _ (by omega) (by omega)]; exact G4
        obtain ⟨t6, u6, v6, w6, y6⟩ := qr_ch hM v5 (by simp only [List.length_append, List.length_cons, List.length_nil]; omega) (c := 109) (d := 109) rfl
        have G6 : t6 (x + 308 + 1) = g := by rw [w6 _ (by omega) (by omega)]; exact G5
        obtain ⟨t7, u7, v7, w7, y7⟩ := qr_nm hM v6 (v := Ta) (by omega) (by simp only [List.length_append, List.length_cons, List.length_nil]; omega)
        have G7 : t7 (x + 308 + 1) = g := by rw [w7 _ (by omega) (by omega)]; exact G6
        obtain ⟨t8, u8, v8, w8, y8⟩ := qr_ch hM v7 (by simp only [List.length_append, List.length_cons, List.length_nil]; omega) (c := 104) (d := 104) rfl
        have G8 : t8 (x + 308 + 1) = g := by rw [w8 _ (by omega) (by omega)]; exact G7
        obtain ⟨t9, u9, v9, w9, y9⟩ := qr_nm hM v8 (v := Ha) (by omega) (by simp only [List.length_append, List.length_cons, List.length_nil]; omega)
        have G9 : t9 (x + 308 + 1) = g := by rw [w9 _ (by omega) (by omega)]; exact G8
        refine ⟨0, Int32.ofNat (([] : List Nat) ++ pq_dg Ro ++ [58] ++ pq_dg Li ++ [35] ++ pq_dg St ++ [109] ++ pq_dg Ta ++ [104] ++ pq_dg Ha).length, s9, 0, Int32.ofNat (([] : List Nat) ++ pq_dg Ro ++ [58] ++ pq_dg Li ++ [35] ++ pq_dg St ++ [109] ++ pq_dg Ta ++ [104] ++ pq_dg Ha).length, t9, ([] : List Nat) ++ pq_dg Ro ++ [58] ++ pq_dg Li ++ [35] ++ pq_dg St ++ [109] ++ pq_dg Ta ++ [104] ++ pq_dg Ha, ?_, ?_, Or.inl ⟨rfl, rfl⟩, ?_, fun _ => rfl, F9, ?_, ?_, o9, v9⟩
        · have R0_0 : s0 (x + 2 + 7 + b) 0 = Int32.ofNat Ro := by rw [F0 _ (by omega) (by omega)]; exact h15
          have R2_1 : s2 (x + 2 + 7 + b) 1 = Int32.ofNat Li := by rw [F2 _ (by omega) (by omega)]; exact h16
          have R3_1 : s3 (x + 2 + 7 + b) 1 = Int32.ofNat Li := by rw [F3 _ (by omega) (by omega)]; exact h16
          have R4_3 : s4 (x + 2 + 7 + b) 3 = Int32.ofNat St := by rw [F4 _ (by omega) (by omega)]; exact h18
          have R6_5 : s6 (x + 2 + 7 + b) 5 = Int32.ofNat Ta := by rw [F6 _ (by omega) (by omega)]; exact h19
          have R7_2 : s7 (x + 2 + 7 + b) 2 = Int32.ofNat Ha := by rw [F7 _ (by omega) (by omega)]; exact h17
          have R8_2 : s8 (x + 2 + 7 + b) 2 = Int32.ofNat Ha := by rw [F8 _ (by omega) (by omega)]; exact h17
          rw [f_X8_line, q8_ex hX hR hV hb h1, pq_bx, pq_x8 hX, e0, pq_bd]
          simp only [R0_0, e1, pq_bd, e2, R2_1, e3, q0_empty, R3_1, pq_i10, hLi]
          simp only [not_false_eq_true, if_true, e4, pq_bd, R4_3, e5, e6, R6_5, e7, R7_2, hHa]
          simp only [if_false, e8, R8_2, e9, pq_bd, qs_lng o9]
        · rw [f_X9_line, q9_isB hM hg1 hV, if_pos h1, pq_bd, if_neg (by decide), rc_lt, pq_upE, pq_udE, if_pos (by decide), rc_lt]
          simp only [q9_of0 hM hG0 hb8, pq_bd, q15, u1, u2, q9_of1 hM G2 hb8, q16, u3, q9_of1 hM G3 hb8, hLi, if_true, if_false]
          simp only [u4, pq_bd, q9_of3 hM G4 hb8, q18, u5, u6, q9_of4 hM G6 hb8, q19, u7, q9_of2 hM G7 hb8, q17, hH0, if_true, if_false]
          simp only [u8, pq_bd, q9_of2 hM G8 hb8, q17, u9]
          rw [v9.1]
        · rw [y9 _ (by decide), y8 _ (by decide), y7 _ (by decide), y6 _ (by decide), y5 _ (by decide), y4 _ (by decide), y3 _ (by decide), y2 _ (by decide), y1 _ (by decide), pq_upE, pq_udN (by decide), pq_upE, pq_udE]
        · intro a a1 a2; rw [w9 a a1 a2, w8 a a1 a2, w7 a a1 a2, w6 a a1 a2, w5 a a1 a2, w4 a a1 a2, w3 a a1 a2, w2 a a1 a2, w1 a a1 a2, pq_upN a1, pq_upN a1]
        · intro j j1 j2; rw [y9 j j2, y8 j j2, y7 j j2, y6 j j2, y5 j j2, y4 j j2, y3 j j2, y2 j j2, y1 j j2, pq_upE, pq_udN j2, pq_upE, pq_udN j1]
  · refine ⟨2, 0, σ, 1, 0, rc_up σ (x + 308) 0 1, L0, ?_, ?_, Or.inr ⟨rfl, rfl⟩, by rw [pq_upE, pq_udE], (fun q => nomatch q), fun _ _ _ => rfl, fun a a1 _ => pq_upN a1, fun j j1 _ => by rw [pq_upE, pq_udN j1], hOC, ⟨by rw [pq_upE, pq_udN (by decide)]; exact hOR.1, hOR.2.1, fun k v hv => by rw [pq_upN (by omega)]; exact hOR.2.2 k v hv⟩⟩
    · rw [f_X8_line, q8_ex0 hX hR h1, pq_bxk (by decide)]
    · rw [f_X9_line, q9_isB hM hg hV, if_neg h1, pq_bd, if_pos rfl, rc_lt, pq_upE, pq_udE, if_neg (by decide)]
def pq_tk (g : Nat → Int32) (j : Nat) : List Nat := (if j = 0 then [] else [32]) ++ [if g (64 + 2 * j) = 1 then 116 else 109] ++ pq_dg (g (63 + 2 * j)).toNatClampNeg
theorem pq_tkl (hV : pq_V g n p N) {j : Nat} (hj : j < p) : (pq_tk g j).length ≤ (if j = 0 then 2 else 3) ∧ ∃ v, v ≤ 9 ∧ g (63 + 2 * j) = Int32.ofNat v ∧ (g (63 + 2 * j)).toNatClampNeg = v ∧ (pq_dg v).length = 1 := by
  obtain ⟨v, hv, e⟩ := pq_natL (n := 9) (pq_vpp hV hj).1 (pq_vpp hV hj).2 (by omega)
  have e2 : (g (63 + 2 * j)).toNatClampNeg = v := by rw [e, pq_cl (by omega)]
  have l := (pq_dgl v).2.2 (by omega)
  refine ⟨?_, v, hv, e, e2, l⟩
  unfold pq_tk
  rw [e2]
  by_cases h : j = 0
  · simp [h, l]
  · simp [h, l]
theorem q8_pan (hX : pq_X rf x) (hV : pq_V g n p N) (K : Int32 → rc_S → Option (Int32 × rc_S)) : ∀ (d fu i : Nat) (σ : rc_S) (L : List Nat), i + d = p → pq_R σ (x + 2) g n p → pq_OC σ x L → L.length ≤ 3 * i → ∃ σ' L', f_X8_panel_10 rf x K (fu + d + 1) (Int32.ofNat i) σ = K (Int32.ofNat p) σ' ∧ pq_OC σ' x L' ∧ L' = L ++ (List.range' i d).flatMap (pq_tk g) ∧ ∀ a, a ≠ x + 306 → a ≠ x + 307 → σ' a = σ a := by
  have hK := pq_xk hX
  have h4 := pq_vp hV
  have h8 := pq_vn hV
  intro d
  induction d with
  | zero =>
    intro fu i σ L h hR hO hl
    have hi : i = p := by omega
    subst hi
    refine ⟨σ, L, ?_, hO, by simp, fun _ _ _ => rfl⟩
    rw [f_X8_panel_10, pq_x1 hX, pq_k3 hK, pq_c1 hR, pq_v1 hV, if_pos (Int32.le_refl _)]
  | succ d ih =>
    intro fu i σ L h hR hO hl
    obtain ⟨tl, v, hv, e1, e2, e3⟩ := pq_tkl hV (show i < p by omega)
    have hni : ¬ Int32.ofNat p ≤ Int32.ofNat i := fun q => by have := (pq_le (by omega) (by omega)).mp q; omega
    have hs : (g (64 + 2 * i) = 0) ↔ ¬ g (64 + 2 * i) = 1 := by
      rcases pq_vps hV (show i < p by omega) with q | q <;> rw [q] <;> decide
    have step : ∃ σ1, (∀ (X : Option (Int32 × rc_S)), f_X8_panel_10 rf x K (fu + (d + 1) + 1) (Int32.ofNat i) σ = f_X8_panel_10 rf x K (fu + d + 1) (Int32.ofNat (i + 1)) σ1) ∧ pq_OC σ1 x (L ++ pq_tk g i) ∧ ∀ a, a ≠ x + 306 → a ≠ x + 307 → σ1 a = σ a := by
      rw [show fu + (d + 1) + 1 = (fu + d + 1) + 1 from rfl, f_X8_panel_10, pq_x1 hX, pq_k3 hK, pq_c1 hR, pq_v1 hV, if_neg hni, pq_x8 hX]
      by_cases h0 : i = 0
      · subst h0
        rw [if_pos (show Int32.ofNat 0 ≤ 0 by decide), pq_in (by omega) (by omega), pq_ck, pq_cl (by omega), pq_ks hK, pq_ps hR (by omega)]
        by_cases hc : g (64 + 2 * 0) = 1
        · obtain ⟨s1, a1, a2, a3⟩ := qs_ch hX hO (by omega) 116 (by omega)
          rw [show Int32.ofNat 116 = (116 : Int32) from rfl] at a1
          have r1 : s1 (x + 2 + 4) 0 = Int32.ofNat v := by rw [a3 _ (by omega) (by omega), pq_pp hR (by omega), e1]
          obtain ⟨s2, b1, b2, b3⟩ := qs_nm hX a2 (v := v) (by omega) (by simp; omega)
          refine ⟨s2, fun _ => ?_, ?_, fun a c1 c2 => by rw [b3 a c1 c2, a3 a c1 c2]⟩
          · rw [if_neg (fun q => hs.mp q hc), a1, pq_bd, pq_ck, pq_kp hK, r1, b1, pq_bd, rc_lt, pq_s]
          · rw [List.append_assoc] at b2
            rw [pq_tk, if_pos rfl, if_pos hc, e2]; exact b2
        · obtain ⟨s1, a1, a2, a3⟩ := qs_ch hX hO (by omega) 109 (by omega)
          rw [show Int32.ofNat 109 = (109 : Int32) from rfl] at a1
          have r1 : s1 (x + 2 + 4) 0 = Int32.ofNat v := by rw [a3 _ (by omega) (by omega), pq_pp hR (by omega), e1]
          obtain ⟨s2, b1, b2, b3⟩ := qs_nm hX a2 (v := v) (by omega) (by simp; omega)
          refine ⟨s2, fun _ => ?_, ?_, fun a c1 c2 => by rw [b3 a c1 c2, a3 a c1 c2]⟩
          · rw [if_pos (hs.mpr hc), a1, pq_bd, pq_ck, pq_kp hK, r1, b1, pq_bd, rc_lt, pq_s]
          · rw [List.append_assoc] at b2
            rw [pq_tk, if_pos rfl, if_neg hc, e2]; exact b2
      · have hi0 : ¬ Int32.ofNat i ≤ 0 := fun q => by have := (pq_le (by omega) (show 0 < 2147483648 by decide)).mp q; omega
        obtain ⟨s0, z1, z2, z3⟩ := qs_ch hX hO (by omega) 32 (by omega)
        rw [show Int32.ofNat 32 = (32 : Int32) from rfl] at z1
        have r0 : s0 (x + 2 + 5) i = g (64 + 2 * i) := by rw [z3 _ (by omega) (by omega), pq_ps hR (by omega)]
        rw [if_neg hi0, z1, pq_bd, pq_in (by omega) (by omega), pq_ck, pq_cl (by omega), pq_ks hK, r0]
        by_cases hc : g (64 + 2 * i) = 1
        · obtain ⟨s1, a1, a2, a3⟩ := qs_ch hX z2 (by simp; omega) 116 (by omega)
          rw [show Int32.ofNat 116 = (116 : Int32) from rfl] at a1
          have r1 : s1 (x + 2 + 4) i = Int32.ofNat v := by rw [a3 _ (by omega) (by omega), z3 _ (by omega) (by omega), pq_pp hR (by omega), e1]
          obtain ⟨s2, b1, b2, b3⟩ := qs_nm hX a2 (v := v) (by omega) (by simp; omega)
          refine ⟨s2, fun _ => ?_, ?_, fun a c1 c2 => by rw [b3 a c1 c2, a3 a c1 c2, z3 a c1 c2]⟩
          · rw [if_neg (fun q => hs.mp q hc), a1, pq_bd, pq_ck, pq_kp hK, r1, b1, pq_bd, rc_lt, pq_s]
          · rw [List.append_assoc, List.append_assoc] at b2
            rw [pq_tk, if_neg h0, if_pos hc, e2, List.append_assoc]; exact b2
        · obtain ⟨s1, a1, a2, a3⟩ := qs_ch hX z2 (by simp; omega) 109 (by omega)
          rw [show Int32.ofNat 109 = (109 : Int32) from rfl] at a1
          have r1 : s1 (x + 2 + 4) i = Int32.ofNat v := by rw [a3 _ (by omega) (by omega), z3 _ (by omega) (by omega), pq_pp hR (by omega), e1]
          obtain ⟨s2, b1, b2, b3⟩ := qs_nm hX a2 (v := v) (by omega) (by simp; omega)
          refine ⟨s2, fun _ => ?_, ?_, fun a c1 c2 => by rw [b3 a c1 c2, a3 a c1 c2, z3 a c1 c2]⟩
          · rw [if_pos (hs.mpr hc), a1, pq_bd, pq_ck, pq_kp hK, r1, b1, pq_bd, rc_lt, pq_s]
          · rw [List.append_assoc, List.append_assoc] at b2
            rw [pq_tk, if_neg h0, if_neg hc, e2, List.append_assoc]; exact b2
    obtain ⟨s1, e4, o1, f1⟩ := step
    have hl2 : (L ++ pq_tk g i).length ≤ 3 * (i + 1) := by
      rw [List.length_append]
      split at tl <;> omega
    obtain ⟨s2, L2, e5, o2, e6, f2⟩ := ih fu (i + 1) s1 _ (by omega) (pq_Rf hR h8 (fun a _ _ => f1 a (by omega) (by omega))) o1 hl2
    refine ⟨s2, L2, by rw [e4 none, e5], o2, ?_, fun a a1 a2 => by rw [f2 a a1 a2, f1 a a1 a2]⟩
    rw [e6, List.range'_succ, List.flatMap_cons, List.append_assoc]
theorem q9_pan {m : Nat} (hM : pq_M rf m) (hV : pq_V g n p N) (K : Int32 → rc_S → Option (Int32 × rc_S)) : ∀ (d fu i : Nat) (σ : rc_S) (L : List Nat), i + d = p → σ (m + 1) = g → pq_OR σ m L → L.length ≤ 3 * i → ∃ σ' L', f_X9_panel_12 rf m K (fu + d + 1) (Int32.ofNat i) σ = K (Int32.ofNat p) σ' ∧ pq_OR σ' m L' ∧ L' = L ++ (List.range' i d).flatMap (pq_tk g) ∧ (∀ a, a ≠ m → a ≠ m + 7 → σ' a = σ a) ∧ ∀ k, k ≠ 11 → σ' m k = σ m k := by
  have h4 := pq_vp hV
  intro d
  induction d with
  | zero =>
    intro fu i σ L h hg hO hl
    have hi : i = p := by omega
    subst hi
    refine ⟨σ, L, ?_, hO, by simp, fun _ _ _ => rfl, fun _ _ => rfl⟩
    rw [f_X9_panel_12, pq_m1 hM, hg, pq_v1 hV, if_pos (Int32.le_refl _)]
  | succ d ih =>
    intro fu i σ L h hg hO hl
    obtain ⟨tl, v, hv, e1, e2, e3⟩ := pq_tkl hV (show i < p by omega)
    have hni : ¬ Int32.ofNat p ≤ Int32.ofNat i := fun q => by have := (pq_le (by omega) (by omega)).mp q; omega
    have step : ∃ σ1, (∀ (X : Option (Int32 × rc_S)), f_X9_panel_12 rf m K (fu + (d + 1) + 1) (Int32.ofNat i) σ = f_X9_panel_12 rf m K (fu + d + 1) (Int32.ofNat (i + 1)) σ1) ∧ pq_OR σ1 m (L ++ pq_tk g i) ∧ (∀ a, a ≠ m → a ≠ m + 7 → σ1 a = σ a) ∧ ∀ k, k ≠ 11 → σ1 m k = σ m k := by
      rw [show fu + (d + 1) + 1 = (fu + d + 1) + 1 from rfl, f_X9_panel_12, pq_m1 hM, hg, pq_v1 hV, if_neg hni, q9_jy, q9_jx]
      by_cases h0 : i = 0
      · subst h0
        rw [if_pos (show Int32.ofNat 0 ≤ 0 by decide), pq_in (by omega) (by omega), pq_ck, pq_cl (by omega), pq_in (show 63 + 2 * 0 < 107 by omega) (by omega), pq_cl (show 63 + 2 * 0 < 2147483648 by omega)]
        by_cases hc : g (64 + 2 * 0) = 1
        · obtain ⟨s1, a1, a2, a3, a4⟩ := qr_ch hM hO (by omega) (c := 116) (d := 116) rfl
          have r1 : s1 (m + 1) (63 + 2 * 0) = Int32.ofNat v := by rw [a3 _ (by omega) (by omega), hg, e1]
          obtain ⟨s2, b1, b2, b3, b4⟩ := qr_nm hM a2 (v := v) (by omega) (by simp; omega)
          refine ⟨s2, fun _ => ?_, ?_, fun a c1 c2 => by rw [b3 a c1 c2, a3 a c1 c2], fun k hk => by rw [b4 k hk, a4 k hk]⟩
          · rw [if_pos hc, a1, pq_bd, pq_ck, r1, b1, pq_bd, rc_lt, pq_s]
          · rw [List.append_assoc] at b2
            rw [pq_tk, if_pos rfl, if_pos hc, e2]; exact b2
        · obtain ⟨s1, a1, a2, a3, a4⟩ := qr_ch hM hO (by omega) (c := 109) (d := 109) rfl
          have r1 : s1 (m + 1) (63 + 2 * 0) = Int32.ofNat v := by rw [a3 _ (by omega) (by omega), hg, e1]
          obtain ⟨s2, b1, b2, b3, b4⟩ := qr_nm hM a2 (v := v) (by omega) (by simp; omega)
          refine ⟨s2, fun _ => ?_, ?_, fun a c1 c2 => by rw [b3 a c1 c2, a3 a c1 c2], fun k hk => by rw [b4 k hk, a4 k hk]⟩
          · rw [if_neg hc, a1, pq_bd, pq_ck, r1, b1, pq_bd, rc_lt, pq_s]
          · rw [List.append_assoc] at b2
            rw [pq_tk, if_pos rfl, if_neg hc, e2]; exact b2
      · have hi0 : ¬ Int32.ofNat i ≤ 0 := fun q => by have := (pq_le (by omega) (show 0 < 2147483648 by decide)).mp q; omega
        obtain ⟨s0, z1, z2, z3, z4⟩ := qr_ch hM hO (by omega) (c := 32) (d := 32) rfl
        have r0 : s0 (m + 1) = g := by rw [z3 _ (by omega) (by omega), hg]
        rw [if_neg hi0, z1, pq_bd, pq_in (by omega) (by omega), pq_ck, pq_cl (by omega), r0, pq_in (show 63 + 2 * i < 107 by omega) (by omega), pq_cl (show 63 + 2 * i < 2147483648 by omega)]
        by_cases hc : g (64 + 2 * i) = 1
        · obtain ⟨s1, a1, a2, a3, a4⟩ := qr_ch hM z2 (by simp; omega) (c := 116) (d := 116) rfl
          have r1 : s1 (m + 1) (63 + 2 * i) = Int32.ofNat v := by rw [a3 _ (by omega) (by omega), r0, e1]
          obtain ⟨s2, b1, b2, b3, b4⟩ := qr_nm hM a2 (v := v) (by omega) (by simp; omega)
          refine ⟨s2, fun _ => ?_, ?_, fun a c1 c2 => by rw [b3 a c1 c2, a3 a c1 c2, z3 a c1 c2], fun k hk => by rw [b4 k hk, a4 k hk, z4 k hk]⟩
          · rw [if_pos hc, a1, pq_bd, pq_ck, r1, b1, pq_bd, rc_lt, pq_s]
          · rw [List.append_assoc, List.append_assoc] at b2
            rw [pq_tk, if_neg h0, if_pos hc, e2, List.append_assoc]; exact b2
        · obtain ⟨s1, a1, a2, a3, a4⟩ := qr_ch hM z2 (by simp; omega) (c := 109) (d := 109) rfl
          have r1 : s1 (m + 1) (63 + 2 * i) = Int32.ofNat v := by rw [a3 _ (by omega) (by omega), r0, e1]
          obtain ⟨s2, b1, b2, b3, b4⟩ := qr_nm hM a2 (v := v) (by omega) (by simp; omega)
          refine ⟨s2, fun _ => ?_, ?_, fun a c1 c2 => by rw [b3 a c1 c2, a3 a c1 c2, z3 a c1 c2], fun k hk => by rw [b4 k hk, a4 k hk, z4 k hk]⟩
          · rw [if_neg hc, a1, pq_bd, pq_ck, r1, b1, pq_bd, rc_lt, pq_s]
          · rw [List.append_assoc, List.append_assoc] at b2
            rw [pq_tk, if_neg h0, if_neg hc, e2, List.append_assoc]; exact b2
    obtain ⟨s1, e4, o1, f1, y1⟩ := step
    have hl2 : (L ++ pq_tk g i).length ≤ 3 * (i + 1) := by
      rw [List.length_append]
      split at tl <;> omega
    obtain ⟨s2, L2, e5, o2, e6, f2, y2⟩ := ih fu (i + 1) s1 _ (by omega) (by rw [f1 _ (by omega) (by omega)]; exact hg) o1 hl2
    refine ⟨s2, L2, by rw [e4 none, e5], o2, ?_, fun a a1 a2 => by rw [f2 a a1 a2, f1 a a1 a2], fun k hk => by rw [y2 k hk, y1 k hk]⟩
    rw [e6, List.range'_succ, List.flatMap_cons, List.append_assoc]
theorem q_panel (hX : pq_X rf x) (hR : pq_R σ (x + 2) g n p) (hV : pq_V g n p N) (hg : σ (x + 308 + 1) = g) (hOC : pq_OC σ x L0) : ∃ (r : Int32) (σ1 σ2 : rc_S) (L : List Nat), f_X8_panel rf x σ = some (r, σ1) ∧ f_X9_panel rf (x + 308) σ1 = some (r, σ2) ∧ (∀ a, a ≠ x + 306 → a ≠ x + 307 → σ1 a = σ a) ∧ (∀ a, a ≠ x + 308 → a ≠ x + 308 + 7 → σ2 a = σ1 a) ∧ (∀ j, j ≠ 0 → j ≠ 11 → σ2 (x + 308) j = σ1 (x + 308) j) ∧ pq_OC σ1 x L ∧ pq_OR σ2 (x + 308) L := by
  have hK := pq_xk hX
  have hM := pq_xm hX
  have h8 := pq_vn hV
  have h4 := pq_vp hV
  obtain ⟨s0, e0, o0, f0⟩ := qs_len0 hX hOC
  obtain ⟨s1, L1, e1, o1, l1, f1⟩ := q8_pan hX hV (fun v1_25 σ_26 => rc_bd (f_J4_length_8abf5 rf (rf x 8) σ_26) fun w_27 σ_27 => some (w_27, σ_27)) p (99999 - p) 0 s0 [] (by omega) (pq_Rf hR h8 (fun a _ _ => f0 a (by omega))) o0 (by simp)
  have hg1 : s1 (x + 308 + 1) = g := by rw [f1 _ (by omega) (by omega), f0 _ (by omega)]; exact hg
  have hR1 : pq_OR (rc_up (rc_up s1 (x + 308) 0 0) (x + 308) 11 0) (x + 308) [] := ⟨by rw [pq_upE, pq_udE]; rfl, by simp, fun k v hv => by simp at hv⟩
  obtain ⟨s2, L2, e2, o2, l2, f2, y2⟩ := q9_pan hM hV (fun v1_26 σ_27 => some ((σ_27 (x + 308) 11), σ_27)) p (99999 - p) 0 _ [] (by omega) (pq_gu (pq_gu hg1)) hR1 (by simp)
  rw [← l1] at l2
  subst l2
  rw [← pq_fu p (by omega)] at e1 e2
  refine ⟨Int32.ofNat L2.length, s1, s2, L2, ?_, ?_, fun a a1 a2 => by rw [f1 a a1 a2, f0 a a1], fun a a1 a2 => by rw [f2 a a1 a2, pq_upN a1, pq_upN a1], fun j j1 j2 => by rw [y2 j j2, pq_upE, pq_udN j2, pq_upE, pq_udN j1], o1, o2⟩
  · rw [f_X8_panel, pq_x8 hX, e0, pq_bd]
    rw [pq_x8 hX] at e1
    refine Eq.trans e1 ?_
    rw [qs_lng o1, pq_bd]
  · rw [f_X9_panel, rc_lt, rc_lt]
    refine Eq.trans e2 ?_
    rw [o2.1]
end PQL
