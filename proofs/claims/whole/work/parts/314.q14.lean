section PQOP4
variable {rf : rc_F} {x c m : Nat} {σ : rc_S} {g : Nat → Int32} {n p N b : Nat}
theorem q9_p175 (hM : pq_M rf m) {f t : Nat} (hf : f < 8) (ht : t < 8) (v3 v5 : Int32) (K : Int32 → rc_S → Option (Int32 × rc_S)) (hft : f ≠ t) : f_X9_pours_175 rf m (Int32.ofNat f) (Int32.ofNat t) v3 v5 K rc_fu 3 σ = K 6 (rc_up (rc_up (rc_up σ (m + 1) (18 + 6 * t) (σ (m + 1) (18 + 6 * f))) (m + 1) (19 + 6 * t) (σ (m + 1) (19 + 6 * f))) (m + 1) (20 + 6 * t) (σ (m + 1) (20 + 6 * f))) := by
  rw [show rc_fu = 99996 + 1 + 1 + 1 + 1 from rfl, f_X9_pours_175, if_neg (by decide), q9_of3 hM rfl hf, pq_bd, q9_st3 hM ht, pq_bd, rc_lt, show (3 : Int32) + 1 = 4 from rfl]
  rw [f_X9_pours_175, if_neg (by decide), q9_of4 hM rfl hf, pq_bd, q9_st4 hM ht, pq_bd, rc_lt, show (4 : Int32) + 1 = 5 from rfl]
  rw [f_X9_pours_175, if_neg (by decide), q9_of5 hM rfl hf, pq_bd, q9_st5 hM ht, pq_bd, rc_lt, show (5 : Int32) + 1 = 6 from rfl]
  rw [f_X9_pours_175, if_pos (by decide)]
  simp (disch := omega) only [pq_upE, pq_udN]
/-- an empty barrel becomes of the vintage of the other -/
def pq_vt1 (g : Nat → Int32) (f t : Nat) : Nat → Int32 := if g (16 + 6 * t) = 0 then upd (upd (upd g (18 + 6 * t) (g (18 + 6 * f))) (20 + 6 * t) (g (20 + 6 * f))) (19 + 6 * t) (g (19 + 6 * f)) else g
theorem pq_vtN {f t : Nat} (j : Nat) (h : j < 18 + 6 * t ∨ 21 + 6 * t ≤ j) : pq_vt1 g f t j = g j := by
  unfold pq_vt1
  split
  · simp (disch := omega) only [pq_udN]
  · rfl
theorem pq_vtE {f t : Nat} : pq_vt1 g f t (18 + 6 * t) = (if g (16 + 6 * t) = 0 then g (18 + 6 * f) else g (18 + 6 * t)) ∧ pq_vt1 g f t (19 + 6 * t) = (if g (16 + 6 * t) = 0 then g (19 + 6 * f) else g (19 + 6 * t)) ∧ pq_vt1 g f t (20 + 6 * t) = (if g (16 + 6 * t) = 0 then g (20 + 6 * f) else g (20 + 6 * t)) := by
  unfold pq_vt1
  by_cases h : g (16 + 6 * t) = 0
  · simp (disch := omega) only [h, if_true, pq_udN, pq_udE, and_self]
  · simp only [h, if_false, and_self]
/-- the row after the pouring -/
def pq_pr (g : Nat → Int32) (f t : Nat) (u wl : Int32) : Nat → Int32 := upd (upd (pq_go (pq_vt1 g f t) f u wl) (17 + 6 * t) (g (17 + 6 * t) + wl)) (16 + 6 * t) (g (16 + 6 * t) + u)
/-- the class pours -/
theorem q0_pour {S : Nat → Prop} (h : pq_S σ c g S) {f t : Nat} (hf : f < 8) (ht : t < 8) (hft : f ≠ t) (hl0 : 0 ≤ (g (16 + 6 * f)).toInt) (hSf : ∀ k, k < 6 → S (15 + 6 * f + k)) (hSt : ∀ k, k < 6 → S (15 + 6 * t + k)) {u : Int32} : ∃ s, f_X0_pourIn rf (c + 7 + t) (c + 7 + f) u σ = some ((), s) ∧ pq_S s c (pq_pr g f t u (pq_hi g f u)) S ∧ (∀ a, a ≠ c + 7 + f → a ≠ c + 7 + t → s a = σ a) ∧ s (c + 7 + t) 1 = g (16 + 6 * t) + u := by
  have vv := fun (z : Nat) (hz : z < 8) (hS : ∀ k, k < 6 → S (15 + 6 * z + k)) (k : Nat) (hk : k < 6) => h (15 + 6 * z + k) (by omega) (hS k hk)
  have vt1 := vv t ht hSt 1 (by omega)
  have vt2 := vv t ht hSt 2 (by omega)
  have vf3 := vv f hf hSf 3 (by omega)
  have vf4 := vv f hf hSf 4 (by omega)
  have vf5 := vv f hf hSf 5 (by omega)
  rw [(pq_adb ht (by omega)).1, (pq_adb ht (by omega)).2, ← Nat.add_assoc] at vt1 vt2
  rw [(pq_adb hf (by omega)).1, (pq_adb hf (by omega)).2, ← Nat.add_assoc] at vf3 vf4 vf5
  rw [show 15 + 6 * t + 1 = 16 + 6 * t by omega] at vt1
  rw [show 15 + 6 * t + 2 = 17 + 6 * t by omega] at vt2
  rw [show 15 + 6 * f + 3 = 18 + 6 * f by omega] at vf3
  rw [show 15 + 6 * f + 4 = 19 + 6 * f by omega] at vf4
  rw [show 15 + 6 * f + 5 = 20 + 6 * f by omega] at vf5
  have vt1 : σ (c + 7 + t) 1 = g (16 + 6 * t) := vt1
  have vt2 : σ (c + 7 + t) 2 = g (17 + 6 * t) := vt2
  have vf3 : σ (c + 7 + f) 3 = g (18 + 6 * f) := vf3
  have vf4 : σ (c + 7 + f) 5 = g (19 + 6 * f) := vf4
  have vf5 : σ (c + 7 + f) 4 = g (20 + 6 * f) := vf5
  have hS16 : S (16 + 6 * f) := by have := hSf 1 (by omega); rw [show 15 + 6 * f + 1 = 16 + 6 * f by omega] at this; exact this
  have hS17 : S (17 + 6 * f) := by have := hSf 2 (by omega); rw [show 15 + 6 * f + 2 = 17 + 6 * f by omega] at this; exact this
  have gf16 : pq_vt1 g f t (16 + 6 * f) = g (16 + 6 * f) := pq_vtN _ (by omega)
  have gf17 : pq_vt1 g f t (17 + 6 * f) = g (17 + 6 * f) := pq_vtN _ (by omega)
  have eh : pq_hi (pq_vt1 g f t) f u = pq_hi g f u := by unfold pq_hi pq_P; rw [gf16, gf17]
  by_cases h0 : g (16 + 6 * t) = 0
  · have h1 : pq_S (rc_up (rc_up (rc_up σ (c + 7 + t) 3 (g (18 + 6 * f))) (c + 7 + t) 4 (g (20 + 6 * f))) (c + 7 + t) 5 (g (19 + 6 * f))) c (pq_vt1 g f t) S := by
      unfold pq_vt1
      rw [if_pos h0]
      exact fun i hi hS => pq_Sb4 (pq_Sb5 (pq_Sb3 h ht _) ht _) ht _ i hi (Or.inl (Or.inl (Or.inl hS)))
    obtain ⟨s, e1, e2, e3⟩ := q0_go (rf := rf) h1 hf (by rw [gf16]; exact hl0) hS16 hS17 (u := u)
    rw [eh] at e1 e2
    refine ⟨rc_up (rc_up s (c + 7 + t) 2 (g (17 + 6 * t) + pq_hi g f u)) (c + 7 + t) 1 (g (16 + 6 * t) + u), ?_, fun i hi hS => pq_Sb1 (pq_Sb2 e2 ht _) ht _ i hi (Or.inl (Or.inl hS)), fun a a1 a2 => by rw [pq_upN a2, pq_upN a2, e3 a a1, pq_upN a2, pq_upN a2, pq_upN a2], by rw [pq_upE, pq_udE]⟩
    simp (disch := omega) only [f_X0_pourIn, q0_empty, vt1, h0, if_true, pq_bd, pq_i10, f_X0_copyVintage, rc_lt, pq_upN, vf3, vf5, vf4, e1, pq_upE, pq_udN, pq_udE, vt2, e3]
    rw [if_neg (by decide)]
  · have h1 : pq_S σ c (pq_vt1 g f t) S := by
      unfold pq_vt1
      rw [if_neg h0]
      exact h
    obtain ⟨s, e1, e2, e3⟩ := q0_go (rf := rf) h1 hf (by rw [gf16]; exact hl0) hS16 hS17 (u := u)
    rw [eh] at e1 e2
    refine ⟨rc_up (rc_up s (c + 7 + t) 2 (g (17 + 6 * t) + pq_hi g f u)) (c + 7 + t) 1 (g (16 + 6 * t) + u), ?_, fun i hi hS => pq_Sb1 (pq_Sb2 e2 ht _) ht _ i hi (Or.inl (Or.inl hS)), fun a a1 a2 => by rw [pq_upN a2, pq_upN a2, e3 a a1], by rw [pq_upE, pq_udE]⟩
    simp (disch := omega) only [f_X0_pourIn, q0_empty, vt1, h0, if_false, if_true, pq_bd, rc_lt, e1, pq_upE, pq_udN, pq_udE, vt2, e3, pq_upN]
/-- the reference pours -/
theorem q9_pour (hM : pq_M rf m) {f t : Nat} (hf : f < 8) (ht : t < 8) (hft : f ≠ t) {u : Int32} {τ : rc_S} (hτ : τ (m + 1) = g) (s : rc_S) (hs : s = rc_up (rc_up τ (m + 1) (16 + 6 * t) (g (16 + 6 * t) + u)) (m + 1) (17 + 6 * t) (g (17 + 6 * t) + pq_hi g f u) ∧ g (16 + 6 * t) ≠ 0 ∨ s = rc_up (rc_up (rc_up (rc_up (rc_up τ (m + 1) (18 + 6 * t) (g (18 + 6 * f))) (m + 1) (19 + 6 * t) (g (19 + 6 * f))) (m + 1) (20 + 6 * t) (g (20 + 6 * f))) (m + 1) (16 + 6 * t) (g (16 + 6 * t) + u)) (m + 1) (17 + 6 * t) (g (17 + 6 * t) + pq_hi g f u) ∧ g (16 + 6 * t) = 0) : ∃ s2, f_X9_goes rf m (Int32.ofNat f) u (pq_hi g f u) s = some ((), s2) ∧ s2 (m + 1) = pq_pr g f t u (pq_hi g f u) ∧ (∀ a, a ≠ m + 1 → s2 a = τ a) ∧ s2 (m + 1) (16 + 6 * t) = g (16 + 6 * t) + u := by
  obtain ⟨s2, e1, e2, e3⟩ := q9_go (σ := s) (u := u) (hl := pq_hi g f u) hM hf
  have er : s (m + 1) = upd (upd (pq_vt1 g f t) (17 + 6 * t) (g (17 + 6 * t) + pq_hi g f u)) (16 + 6 * t) (g (16 + 6 * t) + u) := by
    rcases hs with ⟨rfl, h0⟩ | ⟨rfl, h0⟩
    · unfold pq_vt1
      rw [if_neg h0]
      simp only [pq_upE, hτ]
      funext j
      simp only [upd]
      repeat' split
      all_goals first | rfl | omega
    · unfold pq_vt1
      rw [if_pos h0]
      simp only [pq_upE, hτ]
      funext j
      simp only [upd]
      repeat' split
      all_goals first | rfl | omega
  have eg : s2 (m + 1) = pq_pr g f t u (pq_hi g f u) := by
    rw [e2, er, pq_goU _ (by omega), pq_goU _ (by omega)]; rfl
  refine ⟨s2, e1, eg, fun a ha => ?_, by rw [eg]; unfold pq_pr; rw [pq_udE]⟩
  rw [e3 a ha]
  rcases hs with ⟨rfl, -⟩ | ⟨rfl, -⟩
  · rw [pq_upN ha, pq_upN ha]
  · rw [pq_upN ha, pq_upN ha, pq_upN ha, pq_upN ha, pq_upN ha]

theorem qo_pour (hX : pq_X rf x) {u v k : Int32} : pq_Op x (f_X7_pourOver rf (x + 1) u v k) (f_X9_pours rf (x + 308) u v k) := by
  intro σ n p Bd g hR hV hB
  have hK := pq_xk hX
  have hM := pq_xm hX
  have h8 := pq_vn hV
  have h4 := pq_vp hV
  have hS := pq_RS hR h8 h4
  by_cases h1 : ¬ u < 0 ∧ u < g 0
  · obtain ⟨f, hf, rfl⟩ := pq_ub hV h1
    have hf8 : f < 8 := by omega
    by_cases h2 : ¬ v < 0 ∧ v < g 0
    · obtain ⟨t, ht, rfl⟩ := pq_ub hV h2
      have ht8 : t < 8 := by omega
      by_cases hft : f = t
      · subst hft
        refine Or.inl ⟨8, Int32.ofNat f, by decide, ?_, fun τ hτ => ?_⟩
        · simp (disch := omega) only [f_X7_pourOver, q1_has hR, q8_out, q5_bec, pq_kb hK, pq_b1 hR, pq_b2 hR, pq_b3 hR, q0_empty, f_X0_room, f_X0_isFreeFor, pq_w0 hX, pq_w1 hX, pq_k0 hK, pq_k1 hK, pq_k3 hK, pq_k4 hK, pq_kp hK, pq_ks hK, pq_bd, pq_ck, pq_bx, rc_lt, pq_i10, pq_i01, not_false_eq_true, not_true_eq_false, and_self, and_true, true_and, and_false, false_and, or_true, true_or, or_false, false_or, if_true, if_false, ↓reduceIte, Decidable.not_not, ne_eq, Int32.reduceLE, Int32.reduceLT, pq_nes, eq_self, pq_c0 hR, pq_in, pq_cl, h1]
        · simp (maxSteps := 2000000) (disch := omega) only [f_X9_pours, q9_isB hM hτ hV, q9_in, q9_ref, pq_m1 hM, hτ, q9_o1 hM, q9_o2 hM, q9_o3 hM, pq_bd, pq_ck, pq_bx, rc_lt, pq_i10, pq_i01, not_false_eq_true, not_true_eq_false, and_self, and_true, true_and, and_false, false_and, or_true, true_or, or_false, false_or, if_true, if_false, ↓reduceIte, Decidable.not_not, ne_eq, Int32.reduceLE, Int32.reduceLT, pq_nes, eq_self, h1]
      · have he : (Int32.ofNat f = Int32.ofNat t) = False := eq_false (fun q => hft ((pq_eq (by omega) (by omega)).mp q))
        by_cases h3 : ¬ k < 1 ∧ ¬ 20 < k
        · obtain ⟨k, k1, k20, rfl⟩ := pq_20b h3
          by_cases k4 : Int32.ofNat k ≤ g (16 + 6 * f)
          · obtain ⟨Hf, Lf, Tf, a1, a2, a3, b1, b2, b3⟩ := pq_bN hV hf
            obtain ⟨Ht, Lt, Tt, c1, c2, c3, d1, d2, d3⟩ := pq_bN hV ht
            have eLt := d2
            have z1 : k ≤ Lf := by rw [b2] at k4; exact (pq_le (by omega) (by omega)).mp k4
            have hl0 : 0 ≤ (g (16 + 6 * f)).toInt := by rw [b2, pq_ti (by omega)]; omega
            obtain ⟨W, w1, w2, w3, ew⟩ := pq_hiN (g := g) (b := f) a1 a2 z1 (by omega) b1 b2
            obtain ⟨s1, r1, r2, r3, r4⟩ := q0_pour (rf := rf) hS hf8 ht8 hft hl0 (fun k hk => by unfold pq_lv; omega) (fun k hk => by unfold pq_lv; omega) (u := Int32.ofNat k)
            have er : ((20 : Int32) - g (16 + 6 * t)) = Int32.ofNat (20 - Lt) := by rw [d2, Int32.ofNat_sub _ _ c2]; rfl
            have hVV : (Int32.ofNat k ≤ 20 - g (16 + 6 * t)) → pq_V (pq_pr g f t (Int32.ofNat k) (pq_hi g f (Int32.ofNat k))) n p (Bd + 1) := by
              intro hr
              rw [er] at hr
              have z2 : k ≤ 20 - Lt := (pq_le (by omega) (by omega)).mp hr
              have gN : ∀ j, (j < 16 + 6 * f ∨ 21 + 6 * f ≤ j) → (j < 16 + 6 * t ∨ 21 + 6 * t ≤ j) → pq_pr g f t (Int32.ofNat k) (pq_hi g f (Int32.ofNat k)) j = g j := fun j j1 j2 => by
                unfold pq_pr
                rw [pq_udN (by omega), pq_udN (by omega), pq_goN j j1, pq_vtN j (by omega)]
              have Bf := pq_VB hV hf
              have Bt := pq_VB hV ht
              refine pq_Vn hV ⟨by rw [gN _ (by omega) (by omega)]; exact pq_v0 hV, h8⟩ ⟨by rw [gN _ (by omega) (by omega)]; exact pq_v1 hV, h4⟩ (Or.inl (gN _ (by omega) (by omega))) (Or.inl (gN _ (by omega) (by omega))) (Or.inl (gN _ (by omega) (by omega))) (fun r hr => Or.inl (gN _ (by omega) (by omega))) (fun b hb => ?_) (fun j hj => Or.inl ⟨hj, gN _ (by omega) (by omega), gN _ (by omega) (by omega)⟩)
              by_cases ef : b = f
              · subst ef
                refine Or.inr ?_
                have gB : ∀ j, (j < 18 + 6 * t ∨ 21 + 6 * t ≤ j) → pq_vt1 g b t j = g j := fun j hj => pq_vtN j hj
                have Bf' : pq_vB (g 3) (pq_vt1 g b t (15 + 6 * b)) (pq_vt1 g b t (16 + 6 * b)) (pq_vt1 g b t (17 + 6 * b)) (pq_vt1 g b t (18 + 6 * b)) (pq_vt1 g b t (19 + 6 * b)) (pq_vt1 g b t (20 + 6 * b)) (Bd + 1) := by
                  rw [gB _ (by omega), gB _ (by omega), gB _ (by omega), gB _ (by omega), gB _ (by omega), gB _ (by omega)]
                  exact ⟨Bf.1, Bf.2.1, ⟨Bf.2.2.1.1, by have := Bf.2.2.1.2; omega⟩, Bf.2.2.2⟩
                have z := pq_goV (g := pq_vt1 g b t) (b := b) (hl := pq_hi g b (Int32.ofNat k)) Bf' (pq_v3 hV).1 a1 a2 z1 (by omega) w1 w3 (by rw [gB _ (by omega)]; exact b1) (by rw [gB _ (by omega)]; exact b2) ew
                rw [gN 3 (by omega) (by omega)]
                unfold pq_pr
                simp (disch := omega) only [pq_udN]
                exact z
              · by_cases et : b = t
                · subst et
                  refine Or.inr ?_
                  have hLf : g (16 + 6 * f) ≠ 0 := fun q => by
                    rw [b2] at q
                    have := (pq_eq (by omega) (show 0 < 2147483648 by decide)).mp q
                    omega
                  have e16 : pq_pr g f b (Int32.ofNat k) (pq_hi g f (Int32.ofNat k)) (16 + 6 * b) = Int32.ofNat (Lt + k) := by unfold pq_pr; rw [pq_udE, d2, Int32.ofNat_add]
                  have e17 : pq_pr g f b (Int32.ofNat k) (pq_hi g f (Int32.ofNat k)) (17 + 6 * b) = Int32.ofNat (Ht + W) := by unfold pq_pr; rw [pq_udN (by omega), pq_udE, d1, ew, Int32.ofNat_add]
                  have eo : ∀ j, (18 + 6 * b ≤ j ∧ j < 21 + 6 * b) → pq_pr g f b (Int32.ofNat k) (pq_hi g f (Int32.ofNat k)) j = pq_vt1 g f b j := fun j hj => by unfold pq_pr; rw [pq_udN (by omega), pq_udN (by omega), pq_goN j (by omega)]
                  have y := pq_vtE (g := g) (f := f) (t := b)
                  rw [gN 3 (by omega) (by omega), gN (15 + 6 * b) (by omega) (by omega), e16, e17, eo _ (by omega), eo _ (by omega), eo _ (by omega), y.1, y.2.1, y.2.2]
                  refine ⟨Bt.1, ⟨by rw [pq_ti (by omega)]; omega, by rw [pq_ti (by omega), pq_ti (by omega)]; omega, by rw [pq_ti (by omega)]; omega⟩, ?_, ?_, ?_, fun q => by have := (pq_eq (by omega) (show 0 < 2147483648 by decide)).mp q; omega, fun _ => ?_⟩
                  · split
                    · exact ⟨Bf.2.2.1.1, by have := Bf.2.2.1.2; omega⟩
                    · exact ⟨Bt.2.2.1.1, by have := Bt.2.2.1.2; omega⟩
                  · split
                    · exact Bf.2.2.2.1
                    · exact Bt.2.2.2.1
                  · split
                    · exact Bf.2.2.2.2.1
                    · exact Bt.2.2.2.2.1
                  · split
                    · exact Bf.2.2.2.2.2.2 hLf
                    · rename_i q; exact Bt.2.2.2.2.2.2 q
                · refine Or.inl ⟨hb, fun k' hk' => gN _ (by omega) (by omega)⟩
            by_cases h5 : g (16 + 6 * t) = 0
            · by_cases h6 : Int32.ofNat k ≤ 20 - g (16 + 6 * t)
              · have hVV := hVV h6
                have h6z : Int32.ofNat k ≤ 20 - 0 := by rw [← h5]; exact h6
                refine Or.inr ⟨g (16 + 6 * t) + Int32.ofNat k, s1, pq_pr g f t (Int32.ofNat k) (pq_hi g f (Int32.ofNat k)), n, p, by rw [eLt, ← Int32.ofNat_add]; exact pq_nnN (by omega), ?_, fun a ha => r3 a (by omega) (by omega), pq_SR r2 h8 h4 (fun j hj hl => hl), hVV, fun τ hτ => ?_⟩
                · simp (disch := omega) only [f_X7_pourOver, q1_has hR, q8_out, q5_bec, pq_kb hK, pq_b1 hR, pq_b2 hR, pq_b3 hR, q0_empty, f_X0_room, f_X0_isFreeFor, pq_w0 hX, pq_w1 hX, pq_k0 hK, pq_k1 hK, pq_k3 hK, pq_k4 hK, pq_kp hK, pq_ks hK, pq_bd, pq_ck, pq_bx, rc_lt, pq_i10, pq_i01, not_false_eq_true, not_true_eq_false, and_self, and_true, true_and, and_false, false_and, or_true, true_or, or_false, false_or, if_true, if_false, ↓reduceIte, Decidable.not_not, ne_eq, Int32.reduceLE, Int32.reduceLT, pq_nes, eq_self, pq_c0 hR, pq_in, pq_cl, h1, h2, he, h3, k4, h5, h6z, r1, r4]
                · obtain ⟨s2, u1, u2, u3, u4⟩ := q9_pour (u := Int32.ofNat k) hM hf8 ht8 hft hτ _ (Or.inr ⟨rfl, h5⟩)
                  rw [h5] at u1 u4
                  refine ⟨rc_up s2 (x + 308) 17 (g (16 + 6 * t) + Int32.ofNat k), ?_, pq_fin u2 u3⟩
                  simp (maxSteps := 2000000) (disch := omega) only [f_X9_pours, q9_isB hM hτ hV, q9_in, q9_ref, pq_m1 hM, hτ, q9_o1 hM, q9_o2 hM, q9_o3 hM, pq_bd, pq_ck, pq_bx, rc_lt, pq_i10, pq_i01, not_false_eq_true, not_true_eq_false, and_self, and_true, true_and, and_false, false_and, or_true, true_or, or_false, false_or, if_true, if_false, ↓reduceIte, Decidable.not_not, ne_eq, Int32.reduceLE, Int32.reduceLT, pq_nes, eq_self, h1, h2, he, h3, k4, h5, h6z, q9_p175 hM hf8 ht8 _ _ _ hft, q9_hi hM hf8, q9_st1 hM ht8, q9_st2 hM ht8, pq_upE, pq_udN, pq_udE, u1, u4, q9_don]
              · refine Or.inl ⟨7, 20 - g (16 + 6 * t), by decide, ?_, fun τ hτ => ?_⟩
                · simp (disch := omega) only [f_X7_pourOver, q1_has hR, q8_out, q5_bec, pq_kb hK, pq_b1 hR, pq_b2 hR, pq_b3 hR, q0_empty, f_X0_room, f_X0_isFreeFor, pq_w0 hX, pq_w1 hX, pq_k0 hK, pq_k1 hK, pq_k3 hK, pq_k4 hK, pq_kp hK, pq_ks hK, pq_bd, pq_ck, pq_bx, rc_lt, pq_i10, pq_i01, not_false_eq_true, not_true_eq_false, and_self, and_true, true_and, and_false, false_and, or_true, true_or, or_false, false_or, if_true, if_false, ↓reduceIte, Decidable.not_not, ne_eq, Int32.reduceLE, Int32.reduceLT, pq_nes, eq_self, pq_c0 hR, pq_in, pq_cl, h1, h2, he, h3, k4, h5, show ¬ Int32.ofNat k ≤ 20 - 0 from by rw [← h5]; exact h6]
                · simp (maxSteps := 2000000) (disch := omega) only [f_X9_pours, q9_isB hM hτ hV, q9_in, q9_ref, pq_m1 hM, hτ, q9_o1 hM, q9_o2 hM, q9_o3 hM, pq_bd, pq_ck, pq_bx, rc_lt, pq_i10, pq_i01, not_false_eq_true, not_true_eq_false, and_self, and_true, true_and, and_false, false_and, or_true, true_or, or_false, false_or, if_true, if_false, ↓reduceIte, Decidable.not_not, ne_eq, Int32.reduceLE, Int32.reduceLT, pq_nes, eq_self, h1, h2, he, h3, k4, h5, show ¬ Int32.ofNat k ≤ 20 - 0 from by rw [← h5]; exact h6]
            · by_cases h7 : g (18 + 6 * t) = g (18 + 6 * f)
              · by_cases h6 : Int32.ofNat k ≤ 20 - g (16 + 6 * t)
                · have hVV := hVV h6
                  refine Or.inr ⟨g (16 + 6 * t) + Int32.ofNat k, s1, pq_pr g f t (Int32.ofNat k) (pq_hi g f (Int32.ofNat k)), n, p, by rw [eLt, ← Int32.ofNat_add]; exact pq_nnN (by omega), ?_, fun a ha => r3 a (by omega) (by omega), pq_SR r2 h8 h4 (fun j hj hl => hl), hVV, fun τ hτ => ?_⟩
                  · simp (disch := omega) only [f_X7_pourOver, q1_has hR, q8_out, q5_bec, pq_kb hK, pq_b1 hR, pq_b2 hR, pq_b3 hR, q0_empty, f_X0_room, f_X0_isFreeFor, pq_w0 hX, pq_w1 hX, pq_k0 hK, pq_k1 hK, pq_k3 hK, pq_k4 hK, pq_kp hK, pq_ks hK, pq_bd, pq_ck, pq_bx, rc_lt, pq_i10, pq_i01, not_false_eq_true, not_true_eq_false, and_self, and_true, true_and, and_false, false_and, or_true, true_or, or_false, false_or, if_true, if_false, ↓reduceIte, Decidable.not_not, ne_eq, Int32.reduceLE, Int32.reduceLT, pq_nes, eq_self, pq_c0 hR, pq_in, pq_cl, h1, h2, he, h3, k4, h5, h6, h7, r1, r4]
                  · obtain ⟨s2, u1, u2, u3, u4⟩ := q9_pour (u := Int32.ofNat k) hM hf8 ht8 hft hτ _ (Or.inl ⟨rfl, h5⟩)
                    refine ⟨rc_up s2 (x + 308) 17 (g (16 + 6 * t) + Int32.ofNat k), ?_, pq_fin u2 u3⟩
                    simp (maxSteps := 2000000) (disch := omega) only [f_X9_pours, q9_isB hM hτ hV, q9_in, q9_ref, pq_m1 hM, hτ, q9_o1 hM, q9_o2 hM, q9_o3 hM, pq_bd, pq_ck, pq_bx, rc_lt, pq_i10, pq_i01, not_false_eq_true, not_true_eq_false, and_self, and_true, true_and, and_false, false_and, or_true, true_or, or_false, false_or, if_true, if_false, ↓reduceIte, Decidable.not_not, ne_eq, Int32.reduceLE, Int32.reduceLT, pq_nes, eq_self, h1, h2, he, h3, k4, h5, h6, h7, q9_hi hM hf8, q9_st1 hM ht8, q9_st2 hM ht8, pq_upE, pq_udN, pq_udE, u1, u4, q9_don]
                · refine Or.inl ⟨7, 20 - g (16 + 6 * t), by decide, ?_, fun τ hτ => ?_⟩
                  · simp (disch := omega) only [f_X7_pourOver, q1_has hR, q8_out, q5_bec, pq_kb hK, pq_b1 hR, pq_b2 hR, pq_b3 hR, q0_empty, f_X0_room, f_X0_isFreeFor, pq_w0 hX, pq_w1 hX, pq_k0 hK, pq_k1 hK, pq_k3 hK, pq_k4 hK, pq_kp hK, pq_ks hK, pq_bd, pq_ck, pq_bx, rc_lt, pq_i10, pq_i01, not_false_eq_true, not_true_eq_false, and_self, and_true, true_and, and_false, false_and, or_true, true_or, or_false, false_or, if_true, if_false, ↓reduceIte, Decidable.not_not, ne_eq, Int32.reduceLE, Int32.reduceLT, pq_nes, eq_self, pq_c0 hR, pq_in, pq_cl, h1, h2, he, h3, k4, h5, h6, h7]
                  · simp (maxSteps := 2000000) (disch := omega) only [f_X9_pours, q9_isB hM hτ hV, q9_in, q9_ref, pq_m1 hM, hτ, q9_o1 hM, q9_o2 hM, q9_o3 hM, pq_bd, pq_ck, pq_bx, rc_lt, pq_i10, pq_i01, not_false_eq_true, not_true_eq_false, and_self, and_true, true_and, and_false, false_and, or_true, true_or, or_false, false_or, if_true, if_false, ↓reduceIte, Decidable.not_not, ne_eq, Int32.reduceLE, Int32.reduceLT, pq_nes, eq_self, h1, h2, he, h3, k4, h5, h6, h7]
              · refine Or.inl ⟨9, g (18 + 6 * t), by decide, ?_, fun τ hτ => ?_⟩
                · simp (disch := omega) only [f_X7_pourOver, q1_has hR, q8_out, q5_bec, pq_kb hK, pq_b1 hR, pq_b2 hR, pq_b3 hR, q0_empty, f_X0_room, f_X0_isFreeFor, pq_w0 hX, pq_w1 hX, pq_k0 hK, pq_k1 hK, pq_k3 hK, pq_k4 hK, pq_kp hK, pq_ks hK, pq_bd, pq_ck, pq_bx, rc_lt, pq_i10, pq_i01, not_false_eq_true, not_true_eq_false, and_self, and_true, true_and, and_false, false_and, or_true, true_or, or_false, false_or, if_true, if_false, ↓reduceIte, Decidable.not_not, ne_eq, Int32.reduceLE, Int32.reduceLT, pq_nes, eq_self, pq_c0 hR, pq_in, pq_cl, h1, h2, he, h3, k4, h5, h7]
                · simp (maxSteps := 2000000) (disch := omega) only [f_X9_pours, q9_isB hM hτ hV, q9_in, q9_ref, pq_m1 hM, hτ, q9_o1 hM, q9_o2 hM, q9_o3 hM, pq_bd, pq_ck, pq_bx, rc_lt, pq_i10, pq_i01, not_false_eq_true, not_true_eq_false, and_self, and_true, true_and, and_false, false_and, or_true, true_or, or_false, false_or, if_true, if_false, ↓reduceIte, Decidable.not_not, ne_eq, Int32.reduceLE, Int32.reduceLT, pq_nes, eq_self, h1, h2, he, h3, k4, h5, h7]
          · refine Or.inl ⟨6, g (16 + 6 * f), by decide, ?_, fun τ hτ => ?_⟩
            · simp (disch := omega) only [f_X7_pourOver, q1_has hR, q8_out, q5_bec, pq_kb hK, pq_b1 hR, pq_b2 hR, pq_b3 hR, q0_empty, f_X0_room, f_X0_isFreeFor, pq_w0 hX, pq_w1 hX, pq_k0 hK, pq_k1 hK, pq_k3 hK, pq_k4 hK, pq_kp hK, pq_ks hK, pq_bd, pq_ck, pq_bx, rc_lt, pq_i10, pq_i01, not_false_eq_true, not_true_eq_false, and_self, and_true, true_and, and_false, false_and, or_true, true_or, or_false, false_or, if_true, if_false, ↓reduceIte, Decidable.not_not, ne_eq, Int32.reduceLE, Int32.reduceLT, pq_nes, eq_self, pq_c0 hR, pq_in, pq_cl, h1, h2, he, h3, k4]
            · simp (maxSteps := 2000000) (disch := omega) only [f_X9_pours, q9_isB hM hτ hV, q9_in, q9_ref, pq_m1 hM, hτ, q9_o1 hM, q9_o2 hM, q9_o3 hM, pq_bd, pq_ck, pq_bx, rc_lt, pq_i10, pq_i01, not_false_eq_true, not_true_eq_false, and_self, and_true, true_and, and_false, false_and, or_true, true_or, or_false, false_or, if_true, if_false, ↓reduceIte, Decidable.not_not, ne_eq, Int32.reduceLE, Int32.reduceLT, pq_nes, eq_self, h1, h2, he, h3, k4]
        · refine Or.inl ⟨1, 0, by decide, ?_, fun τ hτ => ?_⟩
          · simp (disch := omega) only [f_X7_pourOver, q1_has hR, q8_out, q5_bec, pq_kb hK, pq_b1 hR, pq_b2 hR, pq_b3 hR, q0_empty, f_X0_room, f_X0_isFreeFor, pq_w0 hX, pq_w1 hX, pq_k0 hK, pq_k1 hK, pq_k3 hK, pq_k4 hK, pq_kp hK, pq_ks hK, pq_bd, pq_ck, pq_bx, rc_lt, pq_i10, pq_i01, not_false_eq_true, not_true_eq_false, and_self, and_true, true_and, and_false, false_and, or_true, true_or, or_false, false_or, if_true, if_false, ↓reduceIte, Decidable.not_not, ne_eq, Int32.reduceLE, Int32.reduceLT, pq_nes, eq_self, pq_c0 hR, pq_in, pq_cl, h1, h2, he, if_neg h3]
          · simp (maxSteps := 2000000) (disch := omega) only [f_X9_pours, q9_isB hM hτ hV, q9_in, q9_ref, pq_m1 hM, hτ, q9_o1 hM, q9_o2 hM, q9_o3 hM, pq_bd, pq_ck, pq_bx, rc_lt, pq_i10, pq_i01, not_false_eq_true, not_true_eq_false, and_self, and_true, true_and, and_false, false_and, or_true, true_or, or_false, false_or, if_true, if_false, ↓reduceIte, Decidable.not_not, ne_eq, Int32.reduceLE, Int32.reduceLT, pq_nes, eq_self, h1, h2, he, if_neg h3]
    · refine Or.inl ⟨3, g 0, by decide, ?_, fun τ hτ => ?_⟩
      · simp (disch := omega) only [f_X7_pourOver, q1_has hR, q8_out, q5_bec, pq_kb hK, pq_b1 hR, pq_b2 hR, pq_b3 hR, q0_empty, f_X0_room, f_X0_isFreeFor, pq_w0 hX, pq_w1 hX, pq_k0 hK, pq_k1 hK, pq_k3 hK, pq_k4 hK, pq_kp hK, pq_ks hK, pq_bd, pq_ck, pq_bx, rc_lt, pq_i10, pq_i01, not_false_eq_true, not_true_eq_false, and_self, and_true, true_and, and_false, false_and, or_true, true_or, or_false, false_or, if_true, if_false, ↓reduceIte, Decidable.not_not, ne_eq, Int32.reduceLE, Int32.reduceLT, pq_nes, eq_self, pq_c0 hR, pq_in, pq_cl, h1, if_neg h2]
      · simp (maxSteps := 2000000) (disch := omega) only [f_X9_pours, q9_isB hM hτ hV, q9_in, q9_ref, pq_m1 hM, hτ, q9_o1 hM, q9_o2 hM, q9_o3 hM, pq_bd, pq_ck, pq_bx, rc_lt, pq_i10, pq_i01, not_false_eq_true, not_true_eq_false, and_self, and_true, true_and, and_false, false_and, or_true, true_or, or_false, false_or, if_true, if_false, ↓reduceIte, Decidable.not_not, ne_eq, Int32.reduceLE, Int32.reduceLT, pq_nes, eq_self, h1, if_neg h2]
  · refine Or.inl ⟨3, g 0, by decide, ?_, fun τ hτ => ?_⟩
    · simp (disch := omega) only [f_X7_pourOver, q1_has hR, q8_out, q5_bec, pq_kb hK, pq_b1 hR, pq_b2 hR, pq_b3 hR, q0_empty, f_X0_room, f_X0_isFreeFor, pq_w0 hX, pq_w1 hX, pq_k0 hK, pq_k1 hK, pq_k3 hK, pq_k4 hK, pq_kp hK, pq_ks hK, pq_bd, pq_ck, pq_bx, rc_lt, pq_i10, pq_i01, not_false_eq_true, not_true_eq_false, and_self, and_true, true_and, and_false, false_and, or_true, true_or, or_false, false_or, if_true, if_false, ↓reduceIte, Decidable.not_not, ne_eq, Int32.reduceLE, Int32.reduceLT, pq_nes, eq_self, pq_c0 hR, pq_in, pq_cl, if_neg h1]
    · simp (maxSteps := 2000000) (disch := omega) only [f_X9_pours, q9_isB hM hτ hV, q9_in, q9_ref, pq_m1 hM, hτ, q9_o1 hM, q9_o2 hM, q9_o3 hM, pq_bd, pq_ck, pq_bx, rc_lt, pq_i10, pq_i01, not_false_eq_true, not_true_eq_false, and_self, and_true, true_and, and_false, false_and, or_true, true_or, or_false, false_or, if_true, if_false, ↓reduceIte, Decidable.not_not, ne_eq, Int32.reduceLE, Int32.reduceLT, pq_nes, eq_self, if_neg h1]
end PQOP4
