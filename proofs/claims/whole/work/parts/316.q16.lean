section PQCH
variable {rf : rc_F} {x m : Nat} {σ : rc_S} {Bd Ln : Nat}
theorem q9_remS (hM : pq_M rf m) (σ : rc_S) : ∃ s, f_X9_remembers rf m σ = some ((), s) ∧ (∀ a, a ≠ m → a ≠ m + 2 → s a = σ a) ∧ s m 0 = 0 ∧ (∀ j, j ≠ 0 → s m j = σ m j) ∧ ∀ k, k < 107 → s (m + 2) k = σ (m + 1) k := by
  obtain ⟨s, e1, e2, e3, -⟩ := q9_rem hM 107 (99999 - 107) 0 (rc_up σ m 0 0) (by omega)
  rw [← pq_fu 107 (by omega), show Int32.ofNat 0 = (0 : Int32) from rfl] at e1
  refine ⟨s, ?_, fun a a1 a2 => by rw [e2 a a2, pq_upN a1], by rw [e2 m (by omega), pq_upE, pq_udE], fun j hj => by rw [e2 m (by omega), pq_upE, pq_udN hj], fun k hk => by rw [e3 k (by omega) hk, pq_upN (by omega)]⟩
  rw [f_X9_remembers, rc_lt, e1]
theorem q9_chgS (hM : pq_M rf m) (σ : rc_S) {K : Nat} (hK : K ≤ 8) (h5 : σ m 5 = Int32.ofNat K) (v : Int32) : ∃ s, f_X9_changed rf m v σ = some (v, s) ∧ s m 5 = Int32.ofNat (if K = 8 then 8 else K + 1) ∧ (∀ j, j ≠ 5 → s m j = σ m j) ∧ (∀ a, a ≠ m → a ≠ m + 4 → s a = σ a) ∧ (∀ k, k < 107 → s (m + 4) (107 * ((if K = 8 then 8 else K + 1) - 1) + k) = σ (m + 2) k) ∧ ∀ j, j < (if K = 8 then 8 else K + 1) - 1 → ∀ k, k < 107 → s (m + 4) (107 * j + k) = σ (m + 4) (107 * (if K = 8 then j + 1 else j) + k) := by
  by_cases h8 : K = 8
  · subst h8
    obtain ⟨s1, e1, e2, e3, e4⟩ := q9_shi hM v 749 (99999 - 749) 0 σ (by omega)
    obtain ⟨s2, f1, f2, f3, f4⟩ := q9_cha hM (Kn := 8) (by omega) (by omega) v 107 (99999 - 107) 0 s1 (by omega) (by rw [e2 _ (by omega)]; exact h5)
    rw [← pq_fu _ (by omega), show Int32.ofNat 0 = (0 : Int32) from rfl] at e1 f1
    simp only [if_true]
    refine ⟨s2, ?_, by rw [f2 _ (by omega), e2 _ (by omega)]; exact h5, fun j hj => by rw [f2 _ (by omega), e2 _ (by omega)], fun a a1 a2 => by rw [f2 a a2, e2 a a2], fun k hk => by rw [f3 k (by omega) hk, e2 _ (by omega)], fun j hj k hk => ?_⟩
    · rw [f_X9_changed, h5, if_pos (show Int32.ofNat 8 = 8 from rfl), e1, f1]
    · rw [f4 _ (fun j' _ _ => by omega), e3 _ (by omega) (by omega)]
      congr 1
      omega
  · obtain ⟨s2, f1, f2, f3, f4⟩ := q9_cha hM (Kn := K + 1) (by omega) (by omega) v 107 (99999 - 107) 0 (rc_up σ m 5 (Int32.ofNat (K + 1))) (by omega) (by rw [pq_upE, pq_udE])
    rw [← pq_fu _ (by omega), show Int32.ofNat 0 = (0 : Int32) from rfl] at f1
    simp only [h8, if_false]
    refine ⟨s2, ?_, by rw [f2 _ (by omega), pq_upE, pq_udE], fun j hj => by rw [f2 _ (by omega), pq_upE, pq_udN hj], fun a a1 a2 => by rw [f2 a a2, pq_upN a1], fun k hk => by rw [f3 k (by omega) hk, pq_upN (by omega)], fun j hj k hk => ?_⟩
    · rw [f_X9_changed, h5, if_neg (show ¬ Int32.ofNat K = 8 from fun q => h8 ((pq_eq (m := 8) (by omega) (by decide)).mp q)), pq_s, rc_lt, f1]
    · rw [f4 _ (fun j' _ _ => by omega), pq_upN (by omega)]
/-- the class sets the cellar aside -/
theorem q8_asd (hX : pq_X rf x) {K F : Nat} (hK : K ≤ 8) (hF : F < 9) (h2 : σ (x + 57) 2 = Int32.ofNat K) (h1 : σ (x + 57) 1 = Int32.ofNat F) : f_X2_aside rf (x + 57) σ = some (x + 59 + 27 * ((F + K) % 9), σ) := by
  have hm : (F + K) % 9 < 9 := Nat.mod_lt _ (by decide)
  rw [f_X2_aside, h1, h2, ← Int32.ofNat_add, pq_fm9 (by omega), pq_bd, pq_in hm (by decide), pq_ck, pq_cl (by omega), pq_h0 hX, pq_hj hX hm]
theorem q8_set (hX : pq_X rf x) {K F : Nat} (hK : K ≤ 8) (hF : F < 9) (h2 : σ (x + 57) 2 = Int32.ofNat K) (h1 : σ (x + 57) 1 = Int32.ofNat F) : ∃ s, f_X2_setAside rf (x + 57) (x + 2) σ = some ((), s) ∧ (∀ a, (a < x + 59 + 27 * ((F + K) % 9) ∨ x + 59 + 27 * ((F + K) % 9) + 27 ≤ a) → s a = σ a) ∧ ∀ g n p N, pq_R σ (x + 2) g n p → pq_V g n p N → pq_R s (x + 59 + 27 * ((F + K) % 9)) g n p := by
  have hm : (F + K) % 9 < 9 := Nat.mod_lt _ (by decide)
  obtain ⟨s, e1, e2, e3⟩ := qc (rf := rf) (c1 := x + 59 + 27 * ((F + K) % 9)) (c2 := x + 2) (pq_xh hX hm) (pq_xk hX) (by omega) σ
  exact ⟨s, by rw [f_X2_setAside, q8_asd hX hK hF h2 h1, pq_bd, e1, pq_bd], e2, e3⟩
theorem q8_keep (hX : pq_X rf x) {K F : Nat} (hK : K ≤ 8) (hF : F < 9) (h2 : σ (x + 57) 2 = Int32.ofNat K) (h1 : σ (x + 57) 1 = Int32.ofNat F) : ∃ s, f_X2_keepAside rf (x + 57) σ = some ((), s) ∧ (∀ a, a ≠ x + 57 → s a = σ a) ∧ s (x + 57) 2 = Int32.ofNat (if K = 8 then 8 else K + 1) ∧ s (x + 57) 1 = Int32.ofNat (if K = 8 then (F + 1) % 9 else F) := by
  by_cases h8 : K = 8
  · subst h8
    refine ⟨rc_up σ (x + 57) 1 (Int32.ofNat ((F + 1) % 9)), ?_, fun a ha => pq_upN ha, by rw [pq_upE, pq_udN (by decide)]; exact h2, by rw [pq_upE, pq_udE]; rfl⟩
    rw [f_X2_keepAside, h2, if_pos (by decide), h1, pq_s, pq_fm9 (by omega), pq_bd, rc_lt]
  · refine ⟨rc_up σ (x + 57) 2 (Int32.ofNat (K + 1)), ?_, fun a ha => pq_upN ha, by rw [pq_upE, pq_udE, if_neg h8], by rw [pq_upE, pq_udN (by decide), if_neg h8]; exact h1⟩
    rw [f_X2_keepAside, h2, if_neg (show ¬ (8 : Int32) ≤ Int32.ofNat K from fun q => by have := (pq_le (n := 8) (by decide) (by omega)).mp q; omega), pq_s, rc_lt]
/-- the history with one more in it -/
theorem pq_Hn {σ σ' : rc_S} {K F n p : Nat} {g : Nat → Int32} (hK : K ≤ 8) (hF : F < 9) (hj : ∀ j, j < K → ∃ n p, pq_R σ (x + 59 + 27 * ((F + j) % 9)) (fun i => σ (x + 308 + 4) (107 * j + i)) n p ∧ pq_V (fun i => σ (x + 308 + 4) (107 * j + i)) n p Bd) (hR : pq_R σ' (x + 59 + 27 * ((F + K) % 9)) g n p) (hV : pq_V g n p Bd)
    (h2 : σ' (x + 57) 2 = Int32.ofNat (if K = 8 then 8 else K + 1)) (h5 : σ' (x + 308) 5 = Int32.ofNat (if K = 8 then 8 else K + 1)) (h1 : σ' (x + 57) 1 = Int32.ofNat (if K = 8 then (F + 1) % 9 else F))
    (hr : ∀ a, x + 59 ≤ a → a < x + 302 → (a < x + 59 + 27 * ((F + K) % 9) ∨ x + 59 + 27 * ((F + K) % 9) + 27 ≤ a) → σ' a = σ a)
    (hf : ∀ k, k < 107 → σ' (x + 308 + 4) (107 * ((if K = 8 then 8 else K + 1) - 1) + k) = g k)
    (ho : ∀ j, j < (if K = 8 then 8 else K + 1) - 1 → ∀ k, k < 107 → σ' (x + 308 + 4) (107 * j + k) = σ (x + 308 + 4) (107 * (if K = 8 then j + 1 else j) + k)) {Bd' : Nat} (hB : Bd ≤ Bd') : pq_H rf σ' x Bd' := by
  have hK' : (if K = 8 then 8 else K + 1) ≤ 8 := by split <;> omega
  have hF' : (if K = 8 then (F + 1) % 9 else F) < 9 := by split <;> omega
  refine ⟨_, _, hK', hF', h2, h5, h1, fun j hj' => ?_⟩
  by_cases e : j = (if K = 8 then 8 else K + 1) - 1
  · have em : ((if K = 8 then (F + 1) % 9 else F) + j) % 9 = (F + K) % 9 := by
      rw [e]
      by_cases h8 : K = 8
      · rw [if_pos h8, if_pos h8]; omega
      · rw [if_neg h8, if_neg h8]; omega
    rw [em]
    have eg : ∀ k, k < 107 → (fun i => σ' (x + 308 + 4) (107 * j + i)) k = g k := fun k hk => by rw [e]; exact hf k hk
    exact ⟨n, p, pq_Rg hR (pq_vn hV) (pq_vp hV) eg, pq_Vg (pq_Vm hV hB) eg⟩
  · have hj2 : j < (if K = 8 then 8 else K + 1) - 1 := by omega
    have hjK : (if K = 8 then j + 1 else j) < K := by
      by_cases h8 : K = 8
      · rw [if_pos h8] at hj2 ⊢; omega
      · rw [if_neg h8] at hj2 ⊢; omega
    obtain ⟨n', p', r1, r2⟩ := hj _ hjK
    have em : ((if K = 8 then (F + 1) % 9 else F) + j) % 9 = (F + (if K = 8 then j + 1 else j)) % 9 := by
      by_cases h8 : K = 8
      · rw [if_pos h8, if_pos h8]; omega
      · rw [if_neg h8, if_neg h8]
    have hne : (F + (if K = 8 then j + 1 else j)) % 9 ≠ (F + K) % 9 := by omega
    have hm : (F + (if K = 8 then j + 1 else j)) % 9 < 9 := Nat.mod_lt _ (by decide)
    have hm2 : (F + K) % 9 < 9 := Nat.mod_lt _ (by decide)
    rw [em]
    have eg : ∀ k, k < 107 → (fun i => σ' (x + 308 + 4) (107 * j + i)) k = (fun i => σ (x + 308 + 4) (107 * (if K = 8 then j + 1 else j) + i)) k := fun k hk => ho j hj2 k hk
    generalize (if K = 8 then j + 1 else j) = j' at r1 r2 eg hne hm ⊢
    refine ⟨n', p', pq_Rg (pq_Rf r1 (pq_vn r2) (fun a a1 a2 => hr a (by omega) (by omega) (by omega))) (pq_vn r2) (pq_vp r2) eg, pq_Vg (pq_Vm r2 hB) eg⟩
/-- a change, both sides -/
theorem pq_chg (hX : pq_X rf x) (hB : Bd ≤ 900) {A B : rc_S → Option (Int32 × rc_S)} (hop : pq_Op x A B) : pq_Z rf x Bd Ln (Bd + 1) Ln (fun σ => rc_bd (f_X2_setAside rf (rf x 5) (rf x 1) σ) fun _ σ_1 => rc_bd (A σ_1) fun w_2 σ_2 => rc_bx (f_X8_kept rf x w_2 σ_2) (0 : Int32) fun w_3 σ_3 => some (0, w_3, σ_3)) (fun σ => rc_bd (f_X9_remembers rf (x + 308) σ) fun _ σ_1 => rc_bd (B σ_1) fun w_2 σ_2 => rc_bd (f_X9_ends rf (x + 308) w_2 σ_2) fun w_3 σ_3 => some (w_3, σ_3)) (fun k cd => (k = 0 ∧ cd = 0) ∨ (k = 1 ∧ cd = 1)) := by
  intro σ hJ
  have hM := pq_xm hX
  obtain ⟨⟨n, p, r1, r2⟩, ⟨s1, s2⟩, ⟨K, F, hK, hF, k1, k2, k3, kj⟩, ⟨t1, t2, t3, t4⟩, f1, ⟨w0, w1, w2⟩, L, o1, o2⟩ := hJ
  have hm : (F + K) % 9 < 9 := Nat.mod_lt _ (by decide)
  obtain ⟨a1, b1, b2, b3⟩ := q8_set (σ := σ) hX hK hF k1 k3
  have ra := pq_Rf r1 (pq_vn r2) (σ' := a1) (fun a q1 q2 => b2 a (by omega))
  have rs := b3 _ n p Bd r1 r2
  rcases hop a1 n p Bd _ ra r2 hB with ⟨code, det, hc, hA, hBB⟩ | ⟨v, a2, g', n', p', hv, hA, hfA, hR', hV', hBB⟩
  · -- refused
    generalize hτ : rc_up (rc_up (rc_up a1 (x + 29) 0 code) (x + 29) 1 det) (x + 29) 2 0 = τ at hA
    have τ1 : ∀ a, a ≠ x + 29 → τ a = a1 a := fun a ha => by rw [← hτ]; simp only [pq_upN ha]
    obtain ⟨u1, v1, v2, v3, v4, v5⟩ := q9_remS hM τ
    have eg : u1 (x + 308 + 1) = σ (x + 308 + 1) := by rw [v2 _ (by omega) (by omega), τ1 _ (by omega), b2 _ (by omega)]
    have eB := hBB u1 eg
    have um : ∀ j, j ≠ 0 → u1 (x + 308) j = σ (x + 308) j := fun j hj => by rw [v4 j hj, τ1 _ (by omega), b2 _ (by omega)]
    refine ⟨1, 0, τ, 1, 0, rc_up (rc_up (rc_up (rc_up (rc_up u1 (x + 308) 16 det) (x + 308) 13 code) (x + 308) 14 det) (x + 308) 15 0) (x + 308) 0 1, ?_, ?_, Or.inr ⟨rfl, rfl⟩, by rw [pq_upE, pq_udE], (fun q => nomatch q), ?_⟩
    · simp only [pq_x5 hX, pq_x1 hX, b1, pq_bd, hA]
      rw [f_X8_kept, if_pos rfl, pq_bxk (by decide)]
    · simp only [v1, pq_bd, eB, f_X9_ends, if_neg hc, rc_lt, pq_upE, f_X9_fails]
      rw [pq_udN (by decide), pq_udE]
    · have z1 : ∀ a, a ≠ x + 29 → a ≠ x + 308 → a ≠ x + 308 + 2 → (a < x + 59 + 27 * ((F + K) % 9) ∨ x + 59 + 27 * ((F + K) % 9) + 27 ≤ a) → (rc_up (rc_up (rc_up (rc_up (rc_up u1 (x + 308) 16 det) (x + 308) 13 code) (x + 308) 14 det) (x + 308) 15 0) (x + 308) 0 1) a = σ a := fun a q1 q2 q3 q4 => by simp only [pq_upN q2]; rw [v2 a q2 q3, τ1 a q1, b2 a q4]
      have z2 : ∀ j, j ≠ 0 → j ≠ 13 → j ≠ 14 → j ≠ 15 → j ≠ 16 → (rc_up (rc_up (rc_up (rc_up (rc_up u1 (x + 308) 16 det) (x + 308) 13 code) (x + 308) 14 det) (x + 308) 15 0) (x + 308) 0 1) (x + 308) j = σ (x + 308) j := fun j q0 q1 q2 q3 q4 => by simp only [pq_upE, pq_udN q0, pq_udN q1, pq_udN q2, pq_udN q3, pq_udN q4]; exact um j q0
      have z13 : (rc_up (rc_up (rc_up (rc_up (rc_up u1 (x + 308) 16 det) (x + 308) 13 code) (x + 308) 14 det) (x + 308) 15 0) (x + 308) 0 1) (x + 308) 13 = code := by simp [pq_upE, upd]
      have z14 : (rc_up (rc_up (rc_up (rc_up (rc_up u1 (x + 308) 16 det) (x + 308) 13 code) (x + 308) 14 det) (x + 308) 15 0) (x + 308) 0 1) (x + 308) 14 = det := by simp [pq_upE, upd]
      have z15 : (rc_up (rc_up (rc_up (rc_up (rc_up u1 (x + 308) 16 det) (x + 308) 13 code) (x + 308) 14 det) (x + 308) 15 0) (x + 308) 0 1) (x + 308) 15 = 0 := by simp [pq_upE, upd]
      have z29 : (rc_up (rc_up (rc_up (rc_up (rc_up u1 (x + 308) 16 det) (x + 308) 13 code) (x + 308) 14 det) (x + 308) 15 0) (x + 308) 0 1) (x + 29) = upd (upd (upd (a1 (x + 29)) 0 code) 1 det) 2 0 := by
        simp (disch := omega) only [pq_upN]
        rw [v2 _ (by omega) (by omega), ← hτ]
        simp only [pq_upE]
      generalize rc_up (rc_up (rc_up (rc_up (rc_up u1 (x + 308) 16 det) (x + 308) 13 code) (x + 308) 14 det) (x + 308) 15 0) (x + 308) 0 1 = ω at z1 z2 z13 z14 z15 z29
      have y1 : ω (x + 308 + 1) = σ (x + 308 + 1) := z1 _ (by omega) (by omega) (by omega) (by omega)
      have y3 : ω (x + 308 + 3) = σ (x + 308 + 3) := z1 _ (by omega) (by omega) (by omega) (by omega)
      have yx : ω x = σ x := z1 _ (by omega) (by omega) (by omega) (by omega)
      refine pq_JV (Bd := Bd) ⟨⟨n, p, by rw [y1]; exact pq_Rf r1 (pq_vn r2) (fun a q1 q2 => z1 a (by omega) (by omega) (by omega) (by omega)), by rw [y1]; exact r2⟩, ⟨by rw [yx, z2 _ (by decide) (by decide) (by decide) (by decide) (by decide)]; exact s1, fun q => ?_⟩, ?_, ⟨?_, ?_, t3, fun k hk => ?_⟩, ?_, ⟨?_, ?_, ?_⟩, L, ⟨?_, ?_, o1.2.2.1, fun k v hv => ?_⟩, ⟨?_, o2.2.1, fun k v hv => ?_⟩⟩ (by omega)
      · rw [yx] at q
        obtain ⟨n, p, q1, q2⟩ := s2 q
        rw [y3]
        exact ⟨n, p, pq_Rf q1 (pq_vn q2) (fun a q1 q2 => z1 a (by omega) (by omega) (by omega) (by omega)), q2⟩
      · refine ⟨K, F, hK, hF, by rw [z1 _ (by omega) (by omega) (by omega) (by omega)]; exact k1, by rw [z2 _ (by decide) (by decide) (by decide) (by decide) (by decide)]; exact k2, by rw [z1 _ (by omega) (by omega) (by omega) (by omega)]; exact k3, fun j hj => ?_⟩
        obtain ⟨n, p, q1, q2⟩ := kj j hj
        have hm3 : (F + j) % 9 < 9 := Nat.mod_lt _ (by decide)
        have hne : (F + j) % 9 ≠ (F + K) % 9 := by omega
        rw [z1 (x + 308 + 4) (by omega) (by omega) (by omega) (by omega)]
        exact ⟨n, p, pq_Rf q1 (pq_vn q2) (fun a q1 q2 => z1 a (by omega) (by omega) (by omega) (by omega)), q2⟩
      · rw [z1 _ (by omega) (by omega) (by omega) (by omega)]; exact t1
      · rw [z2 _ (by decide) (by decide) (by decide) (by decide) (by decide)]; exact t2
      · rw [z1 _ (by omega) (by omega) (by omega) (by omega), z1 _ (by omega) (by omega) (by omega) (by omega)]; exact t4 k hk
      · rw [yx, z2 _ (by decide) (by decide) (by decide) (by decide) (by decide)]; exact f1
      · rw [z29, z13]; simp [upd]
      · rw [z29, z14]; simp [upd]
      · rw [z29, z15]; simp [upd]
      · rw [z1 _ (by omega) (by omega) (by omega) (by omega)]; exact o1.1
      · rw [z1 _ (by omega) (by omega) (by omega) (by omega)]; exact o1.2.1
      · rw [z1 _ (by omega) (by omega) (by omega) (by omega)]; exact o1.2.2.2 k v hv
      · rw [z2 _ (by decide) (by decide) (by decide) (by decide) (by decide)]; exact o2.1
      · rw [z1 _ (by omega) (by omega) (by omega) (by omega)]; exact o2.2.2 k v hv
  · -- done
    obtain ⟨a3, c1, c2, c3, c4⟩ := q8_keep (σ := a2) hX hK hF (by rw [hfA _ (by omega), b2 _ (by omega)]; exact k1) (by rw [hfA _ (by omega), b2 _ (by omega)]; exact k3)
    obtain ⟨u1, v1, v2, v3, v4, v5⟩ := q9_remS hM a3
    have e3 : ∀ a, (a < x + 2 ∨ x + 29 ≤ a) → a ≠ x + 57 → (a < x + 59 + 27 * ((F + K) % 9) ∨ x + 59 + 27 * ((F + K) % 9) + 27 ≤ a) → a3 a = σ a := fun a q1 q2 q3 => by rw [c2 a q2, hfA a q1, b2 a q3]
    have eg : u1 (x + 308 + 1) = σ (x + 308 + 1) := by rw [v2 _ (by omega) (by omega), e3 _ (by omega) (by omega) (by omega)]
    obtain ⟨u2, g1, g2, g3, g4, g5⟩ := hBB u1 eg
    obtain ⟨u3, h1, h2, h3, h4, h5, h6⟩ := q9_chgS hM u2 hK (by rw [g5 _ (by decide), v4 _ (by decide), e3 _ (by omega) (by omega) (by omega)]; exact k2) v
    have z1 : ∀ a, (a < x + 2 ∨ x + 29 ≤ a) → a ≠ x + 57 → (a < x + 59 + 27 * ((F + K) % 9) ∨ x + 59 + 27 * ((F + K) % 9) + 27 ≤ a) → a ≠ x + 308 → a ≠ x + 308 + 1 → a ≠ x + 308 + 2 → a ≠ x + 308 + 4 → u3 a = σ a := fun a q1 q2 q3 q4 q5 q6 q7 => by rw [h4 a q4 q7, g4 a q4 q5, v2 a q4 q6, e3 a q1 q2 q3]
    have z2 : ∀ j, j ≠ 0 → j ≠ 5 → j ≠ 17 → u3 (x + 308) j = σ (x + 308) j := fun j q0 q1 q2 => by rw [h3 j q1, g5 j q2, v4 j q0, e3 _ (by omega) (by omega) (by omega)]
    have zc : ∀ a, a ≠ x + 57 → a ≠ x + 308 → a ≠ x + 308 + 1 → a ≠ x + 308 + 2 → a ≠ x + 308 + 4 → u3 a = a2 a := fun a q0 q1 q2 q3 q4 => by rw [h4 a q1 q4, g4 a q1 q2, v2 a q1 q3, c2 a q0]
    have yx : u3 x = σ x := z1 _ (by omega) (by omega) (by omega) (by omega) (by omega) (by omega) (by omega)
    have y3 : u3 (x + 308 + 3) = σ (x + 308 + 3) := z1 _ (by omega) (by omega) (by omega) (by omega) (by omega) (by omega) (by omega)
    have y29 : u3 (x + 29) = σ (x + 29) := z1 _ (by omega) (by omega) (by omega) (by omega) (by omega) (by omega) (by omega)
    have y1 : u3 (x + 308 + 1) = g' := by rw [h4 _ (by omega) (by omega)]; exact g2
    refine ⟨0, v, a3, 0, v, u3, ?_, ?_, Or.inl ⟨rfl, rfl⟩, ?_, fun _ => rfl, ⟨⟨n', p', by rw [y1]; exact pq_Rf hR' (pq_vn hV') (fun a q1 q2 => zc a (by omega) (by omega) (by omega) (by omega) (by omega)), by rw [y1]; exact hV'⟩, ⟨by rw [yx, z2 _ (by decide) (by decide) (by decide)]; exact s1, fun q => ?_⟩, ?_, ⟨?_, ?_, t3, fun k hk => ?_⟩, ?_, ⟨?_, ?_, ?_⟩, L, ⟨?_, ?_, o1.2.2.1, fun k v hv => ?_⟩, ⟨?_, o2.2.1, fun k v hv => ?_⟩⟩⟩
    · simp only [pq_x5 hX, pq_x1 hX, b1, pq_bd, hA]
      rw [f_X8_kept, if_neg hv, pq_x5 hX, c1, pq_bd, pq_bx]
    · simp only [v1, pq_bd, g1]
      rw [f_X9_ends, if_pos rfl, g3, h1, pq_bd, pq_bd]
    · rw [h3 _ (by decide), g5 _ (by decide)]; exact v3
    · rw [yx] at q
      obtain ⟨n, p, q1, q2⟩ := s2 q
      rw [y3]
      exact ⟨n, p, pq_Rf q1 (pq_vn q2) (fun a q1 q2 => z1 a (by omega) (by omega) (by omega) (by omega) (by omega) (by omega) (by omega)), pq_Vm q2 (by omega)⟩
    · refine pq_Hn hK hF kj (g := σ (x + 308 + 1)) (n := n) (p := p) (pq_Rf rs (pq_vn r2) (fun a q1 q2 => ?_)) r2 ?_ ?_ ?_ (fun a q1 q2 q3 => z1 a (by omega) (by omega) q3 (by omega) (by omega) (by omega) (by omega)) (fun k hk => ?_) (fun j hj k hk => ?_) (by omega)
      · rw [zc a (by omega) (by omega) (by omega) (by omega) (by omega), hfA a (by omega)]
      · rw [h4 _ (by omega) (by omega), g4 _ (by omega) (by omega), v2 _ (by omega) (by omega)]; exact c3
      · exact h2
      · rw [h4 _ (by omega) (by omega), g4 _ (by omega) (by omega), v2 _ (by omega) (by omega)]; exact c4
      · rw [h5 k hk, g4 _ (by omega) (by omega), v5 k hk, e3 _ (by omega) (by omega) (by omega)]
      · rw [h6 j hj k hk, g4 _ (by omega) (by omega), v2 _ (by omega) (by omega), e3 _ (by omega) (by omega) (by omega)]
    · rw [z1 _ (by omega) (by omega) (by omega) (by omega) (by omega) (by omega) (by omega)]; exact t1
    · rw [z2 _ (by decide) (by decide) (by decide)]; exact t2
    · rw [z1 _ (by omega) (by omega) (by omega) (by omega) (by omega) (by omega) (by omega), z1 _ (by omega) (by omega) (by omega) (by omega) (by omega) (by omega) (by omega)]; exact t4 k hk
    · rw [yx, z2 _ (by decide) (by decide) (by decide)]; exact f1
    · rw [y29, z2 _ (by decide) (by decide) (by decide)]; exact w0
    · rw [y29, z2 _ (by decide) (by decide) (by decide)]; exact w1
    · rw [y29, z2 _ (by decide) (by decide) (by decide)]; exact w2
    · rw [z1 _ (by omega) (by omega) (by omega) (by omega) (by omega) (by omega) (by omega)]; exact o1.1
    · rw [z1 _ (by omega) (by omega) (by omega) (by omega) (by omega) (by omega) (by omega)]; exact o1.2.1
    · rw [z1 _ (by omega) (by omega) (by omega) (by omega) (by omega) (by omega) (by omega)]; exact o1.2.2.2 k v hv
    · rw [z2 _ (by decide) (by decide) (by decide)]; exact o2.1
    · rw [z1 _ (by omega) (by omega) (by omega) (by omega) (by omega) (by omega) (by omega)]; exact o2.2.2 k v hv

theorem q_storm (hX : pq_X rf x) (hB : Bd ≤ 900) {u1 u2 : Int32} : pq_Z rf x Bd Ln (Bd + 1) Ln (f_X8_storm rf x u1 u2) (f_X9_storm rf (x + 308) u1 u2) (fun k cd => (k = 0 ∧ cd = 0) ∨ (k = 1 ∧ cd = 1)) := by
  have e := pq_chg (Ln := Ln) hX hB (qo_storm hX (u := u1) (h := u2))
  rw [← pq_x0 hX] at e
  exact e
theorem q_barrel (hX : pq_X rf x) (hB : Bd ≤ 900) {u1 : Int32} : pq_Z rf x Bd Ln (Bd + 1) Ln (f_X8_barrel rf x u1) (f_X9_barrel rf (x + 308) u1) (fun k cd => (k = 0 ∧ cd = 0) ∨ (k = 1 ∧ cd = 1)) := by
  have e := pq_chg (Ln := Ln) hX hB (qo_place hX (u := u1))
  rw [← pq_x0 hX] at e
  exact e
theorem q_takeAway (hX : pq_X rf x) (hB : Bd ≤ 900) {u1 : Int32} : pq_Z rf x Bd Ln (Bd + 1) Ln (f_X8_takeAway rf x u1) (f_X9_takeAway rf (x + 308) u1) (fun k cd => (k = 0 ∧ cd = 0) ∨ (k = 1 ∧ cd = 1)) := by
  have e := pq_chg (Ln := Ln) hX hB (qo_take hX (u := u1))
  rw [← pq_x0 hX] at e
  exact e
theorem q_pour (hX : pq_X rf x) (hB : Bd ≤ 900) {u1 u2 u3 : Int32} : pq_Z rf x Bd Ln (Bd + 1) Ln (f_X8_pour rf x u1 u2 u3) (f_X9_pour rf (x + 308) u1 u2 u3) (fun k cd => (k = 0 ∧ cd = 0) ∨ (k = 1 ∧ cd = 1)) := by
  have e := pq_chg (Ln := Ln) hX hB (qo_pour hX (u := u1) (v := u2) (k := u3))
  rw [← pq_x0 hX] at e
  exact e
theorem q_hail (hX : pq_X rf x) (hB : Bd ≤ 900) {u1 u2 : Int32} : pq_Z rf x Bd Ln (Bd + 1) Ln (f_X8_hail rf x u1 u2) (f_X9_hail rf (x + 308) u1 u2) (fun k cd => (k = 0 ∧ cd = 0) ∨ (k = 1 ∧ cd = 1)) := by
  have e := pq_chg (Ln := Ln) hX hB (qo_hail hX (u := u1) (k := u2))
  rw [← pq_x0 hX] at e
  exact e
theorem q_leave (hX : pq_X rf x) (hB : Bd ≤ 900) {u1 : Int32} : pq_Z rf x Bd Ln (Bd + 1) Ln (f_X8_leave rf x u1) (f_X9_leave rf (x + 308) u1) (fun k cd => (k = 0 ∧ cd = 0) ∨ (k = 1 ∧ cd = 1)) := by
  have e := pq_chg (Ln := Ln) hX hB (qo_leave hX (u := u1))
  rw [← pq_x0 hX] at e
  exact e
theorem q_drink (hX : pq_X rf x) (hB : Bd ≤ 900) {u1 : Int32} : pq_Z rf x Bd Ln (Bd + 1) Ln (f_X8_drink rf x u1) (f_X9_drink rf (x + 308) u1) (fun k cd => (k = 0 ∧ cd = 0) ∨ (k = 1 ∧ cd = 1)) := by
  have e := pq_chg (Ln := Ln) hX hB (qo_drink hX (u := u1))
  rw [← pq_x0 hX] at e
  exact e
theorem q_clear (hX : pq_X rf x) (hB : Bd ≤ 900) {u1 : Int32} : pq_Z rf x Bd Ln (Bd + 1) Ln (f_X8_clear rf x u1) (f_X9_clear rf (x + 308) u1) (fun k cd => (k = 0 ∧ cd = 0) ∨ (k = 1 ∧ cd = 1)) := by
  have e := pq_chg (Ln := Ln) hX hB (qo_clear hX (u := u1))
  rw [← pq_x0 hX] at e
  exact e
end PQCH
