section PQU
variable {rf : rc_F} {x m : Nat} {σ : rc_S} {Bd Ln : Nat}
theorem qo_yearD (hX : pq_X rf x) (σ : rc_S) (n p Bd : Nat) (g : Nat → Int32) (hR : pq_R σ (x + 2) g n p) (hV : pq_V g n p Bd) (hB : Bd ≤ 900) : ∃ v σ', v ≠ -1 ∧ f_X7_letYearGoBy rf (x + 1) σ = some (v, σ') := by
  have hK := pq_xk hX
  have hM := pq_xm hX
  have h8 := pq_vn hV
  have h4 := pq_vp hV
  have hS := pq_RS hR h8 h4
  obtain ⟨s, e1, e2, e3⟩ := qo_y7 hX (g 2) (S := pq_lv n p) (fun r hr => Or.inl (by omega)) 4 (99999 - 4) 0 σ g (by omega) hS
  rw [← pq_fu 4 (by omega), show Int32.ofNat 0 = (0 : Int32) from rfl] at e1
  exact ⟨g 2, _, pq_nn (pq_v2 hV).1, by rw [f_X7_letYearGoBy, pq_w0 hX, pq_c2 hR, rc_lt, e1]; rfl⟩
/-- a call that throws nothing -/
def pq_Z2 {α : Type} (rf : rc_F) (x Bd Ln Bd' Ln' : Nat) (A B : rc_S → Option (α × rc_S)) : Prop := ∀ σ, pq_J rf σ x Bd Ln → ∃ (r : α) (σ1 σ2 : rc_S), A σ = some (r, σ1) ∧ B σ1 = some (r, σ2) ∧ pq_J rf σ2 x Bd' Ln'
theorem q_year (hX : pq_X rf x) (hB : Bd ≤ 900) : pq_Z2 rf x Bd Ln (Bd + 1) Ln (f_X8_year rf x) (f_X9_year rf (x + 308)) := by
  intro σ hJ
  obtain ⟨k, r, σ1, cd, b, σ2, e1, e2, e3, e4, e5, e6⟩ := pq_chg (Ln := Ln) hX hB (qo_year hX) σ hJ
  obtain ⟨⟨n, p, r1, r2⟩, -, ⟨K, F, hK, hF, k1, k2, k3, kj⟩, -⟩ := hJ
  obtain ⟨a1, b1, b2, b3⟩ := q8_set (σ := σ) hX hK hF k1 k3
  have hm : (F + K) % 9 < 9 := Nat.mod_lt _ (by decide)
  obtain ⟨v, a2, hv, hA⟩ := qo_yearD hX a1 n p Bd _ (pq_Rf r1 (pq_vn r2) (σ' := a1) (fun a q1 q2 => b2 a (by omega))) r2 hB
  simp only [pq_x5 hX, pq_x1 hX, b1, pq_bd, hA] at e1
  rw [f_X8_kept, if_neg hv, pq_x5 hX] at e1
  cases hk : f_X2_keepAside rf (x + 57) a2 with
  | none => rw [hk] at e1; cases e1
  | some q =>
    obtain ⟨qv, a3⟩ := q
    rw [hk, pq_bd, pq_bx] at e1
    cases e1
    have h0 := e5 rfl
    subst h0
    refine ⟨r, σ1, σ2, ?_, e2, e6⟩
    rw [f_X8_year, pq_x5 hX, pq_x1 hX, pq_x0 hX, b1, pq_bd, hA, pq_bd, hk, pq_bd]
theorem q_sommelier (hX : pq_X rf x) (hB : Bd ≤ 900) {u1 u2 : Int32} (hs : u2 = 0 ∨ u2 = 1) : pq_Z rf x Bd Ln (Bd + 1) Ln (f_X8_sommelier rf x u1 u2) (f_X9_sommelier rf (x + 308) u1 u2) (fun k cd => (k = 0 ∧ cd = 0) ∨ (k = 1 ∧ cd = 1)) := by
  have e := pq_chg (Ln := Ln) hX hB (qo_join hX (u := u1) hs)
  rw [← pq_x0 hX] at e
  have e9 : ∀ τ, f_X9_sommelier rf (x + 308) u1 u2 τ = rc_bd (f_X9_remembers rf (x + 308) τ) fun _ σ_1 => rc_bd (f_X9_joins rf (x + 308) u1 u2 σ_1) fun w_2 σ_2 => rc_bd (f_X9_ends rf (x + 308) w_2 σ_2) fun w_3 σ_3 => some (w_3, σ_3) := by
    intro τ
    rw [f_X9_sommelier]
    rcases hs with h | h
    · subst h; rfl
    · subst h; rfl
  intro σ hJ
  obtain ⟨k, r, σ1, cd, b, σ2, e1, e2, e3, e4, e5, e6⟩ := e σ hJ
  exact ⟨k, r, σ1, cd, b, σ2, e1, by rw [e9]; exact e2, e3, e4, e5, e6⟩
theorem q_undo (hX : pq_X rf x) : pq_Z rf x Bd Ln Bd Ln (f_X8_undo rf x) (f_X9_undo rf (x + 308)) (fun k cd => (k = 0 ∧ cd = 0) ∨ (k = 5 ∧ cd = 1)) := by
  intro σ hJ
  have hM := pq_xm hX
  have hJ0 := hJ
  obtain ⟨⟨n, p, r1, r2⟩, ⟨s1, s2⟩, ⟨K, F, hK, hF, k1, k2, k3, kj⟩, ⟨t1, t2, t3, t4⟩, f1, ⟨w0, w1, w2⟩, L, o1, o2⟩ := hJ
  by_cases h0 : K = 0
  · subst h0
    refine ⟨5, 0, σ, 1, 0, rc_up σ (x + 308) 0 1, ?_, ?_, Or.inr ⟨rfl, rfl⟩, by rw [pq_upE, pq_udE], (fun q => nomatch q), pq_J0 hJ0⟩
    · rw [f_X8_undo, pq_x5 hX, k1, if_pos (show Int32.ofNat 0 = 0 from rfl)]
    · rw [f_X9_undo, rc_lt, pq_upE, pq_udN (by decide), k2, if_pos (show Int32.ofNat 0 = 0 from rfl), f_X9_fails, rc_lt, pq_uu, pq_bd]
  · have hz : ¬ Int32.ofNat K = 0 := fun q => h0 ((pq_eq (m := 0) (by omega) (by decide)).mp q)
    have hm : (F + (K - 1)) % 9 < 9 := Nat.mod_lt _ (by decide)
    have ha := q8_asd (σ := rc_up σ (x + 57) 2 (Int32.ofNat (K - 1))) hX (K := K - 1) (F := F) (by omega) hF (by rw [pq_upE, pq_udE]) (by rw [pq_upE, pq_udN (by decide)]; exact k3)
    obtain ⟨a1, b1, b2, b3⟩ := qc (rf := rf) (c1 := x + 2) (c2 := x + 59 + 27 * ((F + (K - 1)) % 9)) (pq_xk hX) (pq_xh hX hm) (by omega) (rc_up σ (x + 57) 2 (Int32.ofNat (K - 1)))
    obtain ⟨n', p', q1, q2⟩ := kj (K - 1) (by omega)
    have hR' := b3 _ n' p' Bd (pq_Rf q1 (pq_vn q2) (fun a _ _ => pq_upN (by omega))) q2
    have z0 : ∀ a, (a < x + 2 ∨ x + 29 ≤ a) → a ≠ x + 57 → a1 a = σ a := fun a q1 q2 => by rw [b2 a (by omega), pq_upN q2]
    have z57 : a1 (x + 57) = upd (σ (x + 57)) 2 (Int32.ofNat (K - 1)) := by rw [b2 _ (by omega), pq_upE]
    obtain ⟨u, c1, c2, c3, -⟩ := q9_und hM (Kn := K - 1) (by omega) 107 (99999 - 107) 0 (rc_up (rc_up a1 (x + 308) 0 0) (x + 308) 5 (Int32.ofNat (K - 1))) (by omega) (by rw [pq_upE, pq_udE])
    rw [← pq_fu 107 (by omega), show Int32.ofNat 0 = (0 : Int32) from rfl] at c1
    have y0 : ∀ a, (a < x + 2 ∨ x + 29 ≤ a) → a ≠ x + 57 → a ≠ x + 308 → a ≠ x + 308 + 1 → u a = σ a := fun a q1 q2 q3 q4 => by rw [c2 a q4, pq_upN q3, pq_upN q3, z0 a q1 q2]
    have ym : ∀ j, j ≠ 0 → j ≠ 5 → u (x + 308) j = σ (x + 308) j := fun j j1 j2 => by rw [c2 _ (by omega), pq_upE, pq_udN j2, pq_upE, pq_udN j1, z0 _ (by omega) (by omega)]
    have y5 : u (x + 308) 5 = Int32.ofNat (K - 1) := by rw [c2 _ (by omega), pq_upE, pq_udE]
    have yx : u x = σ x := y0 _ (by omega) (by omega) (by omega) (by omega)
    have y3 : u (x + 308 + 3) = σ (x + 308 + 3) := y0 _ (by omega) (by omega) (by omega) (by omega)
    have y29 : u (x + 29) = σ (x + 29) := y0 _ (by omega) (by omega) (by omega) (by omega)
    have y57 : u (x + 57) = upd (σ (x + 57)) 2 (Int32.ofNat (K - 1)) := by rw [c2 _ (by omega), pq_upN (by omega), pq_upN (by omega), z57]
    have er : ∀ k, k < 107 → u (x + 308 + 1) k = (fun i => σ (x + 308 + 4) (107 * (K - 1) + i)) k := fun k hk => by rw [c3 k (by omega) hk, pq_upN (by omega), pq_upN (by omega), z0 _ (by omega) (by omega)]
    refine ⟨0, Int32.ofNat (K - 1), a1, 0, Int32.ofNat (K - 1), u, ?_, ?_, Or.inl ⟨rfl, rfl⟩, ?_, fun _ => rfl, ⟨n', p', pq_Rg (pq_Rf hR' (pq_vn q2) (fun a _ _ => by rw [c2 a (by omega), pq_upN (by omega), pq_upN (by omega)])) (pq_vn q2) (pq_vp q2) er, pq_Vg q2 er⟩, ⟨by rw [yx, ym _ (by decide) (by decide)]; exact s1, fun q => ?_⟩, ?_, ⟨?_, ?_, t3, fun k hk => ?_⟩, ?_, ⟨?_, ?_, ?_⟩, L, ⟨?_, ?_, o1.2.2.1, fun k v hv => ?_⟩, ⟨?_, o2.2.1, fun k v hv => ?_⟩⟩
    · rw [f_X8_undo, pq_x5 hX, k1, if_neg hz, f_X2_takeLatest, k1, q9_k1 (by omega), rc_lt, ha, pq_bd, pq_bd, pq_x1 hX, b1, pq_bd, z57, pq_udE]
    · rw [f_X9_undo, rc_lt, pq_upE, pq_udN (by decide), z0 _ (by omega) (by omega), k2, if_neg hz, q9_k1 (by omega), rc_lt, c1, y5]
    · rw [c2 _ (by omega), pq_upE, pq_udN (by decide), pq_upE, pq_udE]
    · rw [yx] at q
      obtain ⟨n, p, q1, q2⟩ := s2 q
      rw [y3]
      exact ⟨n, p, pq_Rf q1 (pq_vn q2) (fun a _ _ => y0 a (by omega) (by omega) (by omega) (by omega)), q2⟩
    · refine ⟨K - 1, F, by omega, hF, by rw [y57, pq_udE], y5, by rw [y57, pq_udN (by decide)]; exact k3, fun j hj => ?_⟩
      obtain ⟨n, p, q1, q2⟩ := kj j (by omega)
      have hm3 : (F + j) % 9 < 9 := Nat.mod_lt _ (by decide)
      rw [y0 (x + 308 + 4) (by omega) (by omega) (by omega) (by omega)]
      exact ⟨n, p, pq_Rf q1 (pq_vn q2) (fun a _ _ => y0 a (by omega) (by omega) (by omega) (by omega)), q2⟩
    · rw [y0 _ (by omega) (by omega) (by omega) (by omega)]; exact t1
    · rw [ym _ (by decide) (by decide)]; exact t2
    · rw [y0 _ (by omega) (by omega) (by omega) (by omega), y0 _ (by omega) (by omega) (by omega) (by omega)]; exact t4 k hk
    · rw [yx, ym _ (by decide) (by decide)]; exact f1
    · rw [y29, ym _ (by decide) (by decide)]; exact w0
    · rw [y29, ym _ (by decide) (by decide)]; exact w1
    · rw [y29, ym _ (by decide) (by decide)]; exact w2
    · rw [y0 _ (by omega) (by omega) (by omega) (by omega)]; exact o1.1
    · rw [y0 _ (by omega) (by omega) (by omega) (by omega)]; exact o1.2.1
    · rw [y0 _ (by omega) (by omega) (by omega) (by omega)]; exact o1.2.2.2 k v hv
    · rw [ym _ (by decide) (by decide)]; exact o2.1
    · rw [y0 _ (by omega) (by omega) (by omega) (by omega)]; exact o2.2.2 k v hv
theorem q_save (hX : pq_X rf x) : pq_Z2 rf x Bd Ln Bd Ln (f_X8_save rf x) (f_X9_save rf (x + 308)) := by
  intro σ hJ
  have hM := pq_xm hX
  obtain ⟨⟨n, p, r1, r2⟩, ⟨s1, s2⟩, ⟨K, F, hK, hF, k1, k2, k3, kj⟩, ⟨t1, t2, t3, t4⟩, f1, ⟨w0, w1, w2⟩, L, o1, o2⟩ := hJ
  obtain ⟨a1, b1, b2, b3⟩ := qc (rf := rf) (c1 := x + 30) (c2 := x + 2) (pq_xs hX) (pq_xk hX) (by omega) σ
  have hR' := b3 _ n p Bd r1 r2
  obtain ⟨u, c1, c2, c3, -⟩ := q9_sav hM 107 (99999 - 107) 0 (rc_up (rc_up a1 x 4 1) (x + 308) 0 0) (by omega)
  rw [← pq_fu 107 (by omega), show Int32.ofNat 0 = (0 : Int32) from rfl] at c1
  generalize hω : rc_up u (x + 308) 6 1 = ω
  have y0 : ∀ a, a ≠ x → (a < x + 30 ∨ x + 57 ≤ a) → a ≠ x + 308 → a ≠ x + 308 + 3 → ω a = σ a := fun a q1 q2 q3 q4 => by rw [← hω, pq_upN q3, c2 a q4, pq_upN q3, pq_upN q1, b2 a q2]
  have ym : ∀ j, j ≠ 0 → j ≠ 6 → ω (x + 308) j = σ (x + 308) j := fun j j1 j2 => by rw [← hω, pq_upE, pq_udN j2, c2 _ (by omega), pq_upE, pq_udN j1, pq_upN (by omega), b2 _ (by omega)]
  have y6 : ω (x + 308) 6 = 1 := by rw [← hω, pq_upE, pq_udE]
  have yx : ω x = upd (σ x) 4 1 := by rw [← hω, pq_upN (by omega), c2 _ (by omega), pq_upN (by omega), pq_upE, b2 _ (by omega)]
  have ys : ∀ a, x + 30 ≤ a → a < x + 57 → ω a = a1 a := fun a q1 q2 => by rw [← hω, pq_upN (by omega), c2 _ (by omega), pq_upN (by omega), pq_upN (by omega)]
  have y1 : ω (x + 308 + 1) = σ (x + 308 + 1) := y0 _ (by omega) (by omega) (by omega) (by omega)
  have er : ∀ k, k < 107 → ω (x + 308 + 3) k = σ (x + 308 + 1) k := fun k hk => by rw [← hω, pq_upN (by omega), c3 k (by omega) hk, pq_upN (by omega), pq_upN (by omega), b2 _ (by omega)]
  have y29 : ω (x + 29) = σ (x + 29) := y0 _ (by omega) (by omega) (by omega) (by omega)
  refine ⟨σ (x + 308 + 1) 0, rc_up a1 x 4 1, ω, ?_, ?_, ⟨n, p, by rw [y1]; exact pq_Rf r1 (pq_vn r2) (fun a _ _ => y0 a (by omega) (by omega) (by omega) (by omega)), by rw [y1]; exact r2⟩, ⟨by rw [yx, y6, pq_udE], fun _ => ⟨n, p, pq_Rg (pq_Rf hR' (pq_vn r2) (fun a q1 q2 => ys a q1 (by omega))) (pq_vn r2) (pq_vp r2) er, pq_Vg r2 er⟩⟩, ?_, ⟨?_, ?_, t3, fun k hk => ?_⟩, ?_, ⟨?_, ?_, ?_⟩, L, ⟨?_, ?_, o1.2.2.1, fun k v hv => ?_⟩, ⟨?_, o2.2.1, fun k v hv => ?_⟩⟩
  · rw [f_X8_save, pq_x3 hX, pq_x1 hX, b1, pq_bd, rc_lt, pq_upN (by omega), b2 _ (by omega), pq_c0 r1]
  · rw [f_X9_save, rc_lt, c1, rc_lt, hω, pq_m1 hM, y1]
  · exact pq_Hf ⟨K, F, hK, hF, k1, k2, k3, kj⟩ (Nat.le_refl _) (y0 _ (by omega) (by omega) (by omega) (by omega)) (ym _ (by decide) (by decide)) (fun a _ _ => y0 a (by omega) (by omega) (by omega) (by omega)) (y0 _ (by omega) (by omega) (by omega) (by omega))
  · rw [y0 _ (by omega) (by omega) (by omega) (by omega)]; exact t1
  · rw [ym _ (by decide) (by decide)]; exact t2
  · rw [y0 _ (by omega) (by omega) (by omega) (by omega), y0 _ (by omega) (by omega) (by omega) (by omega)]; exact t4 k hk
  · rw [yx, pq_udN (by decide), ym _ (by decide) (by decide)]; exact f1
  · rw [y29, ym _ (by decide) (by decide)]; exact w0
  · rw [y29, ym _ (by decide) (by decide)]; exact w1
  · rw [y29, ym _ (by decide) (by decide)]; exact w2
  · rw [y0 _ (by omega) (by omega) (by omega) (by omega)]; exact o1.1
  · rw [y0 _ (by omega) (by omega) (by omega) (by omega)]; exact o1.2.1
  · rw [y0 _ (by omega) (by omega) (by omega) (by omega)]; exact o1.2.2.2 k v hv
  · rw [ym _ (by decide) (by decide)]; exact o2.1
  · rw [y0 _ (by omega) (by omega) (by omega) (by omega)]; exact o2.2.2 k v hv
theorem q_restore (hX : pq_X rf x) : pq_Z rf x Bd Ln Bd Ln (f_X8_restore rf x) (f_X9_restore rf (x + 308)) (fun k cd => (k = 0 ∧ cd = 0) ∨ (k = 5 ∧ cd = 1)) := by
  intro σ hJ
  have hM := pq_xm hX
  have hJ0 := hJ
  obtain ⟨⟨n, p, r1, r2⟩, ⟨s1, s2⟩, ⟨K, F, hK, hF, k1, k2, k3, kj⟩, ⟨t1, t2, t3, t4⟩, f1, ⟨w0, w1, w2⟩, L, o1, o2⟩ := hJ
  by_cases h0 : σ x 4 = 0
  · refine ⟨5, 0, σ, 1, 0, rc_up σ (x + 308) 0 1, ?_, ?_, Or.inr ⟨rfl, rfl⟩, by rw [pq_upE, pq_udE], (fun q => nomatch q), pq_J0 hJ0⟩
    · rw [f_X8_restore, if_pos h0]
    · rw [f_X9_restore, rc_lt, pq_upE, pq_udN (by decide), ← s1, if_pos h0, f_X9_fails, rc_lt, pq_uu, pq_bd]
  · obtain ⟨n', p', q1, q2⟩ := s2 h0
    obtain ⟨a1, b1, b2, b3⟩ := qc (rf := rf) (c1 := x + 2) (c2 := x + 30) (pq_xk hX) (pq_xs hX) (by omega) σ
    have hR' := b3 _ n' p' Bd q1 q2
    obtain ⟨u, c1, c2, c3, -⟩ := q9_res hM 107 (99999 - 107) 0 (rc_up (rc_up a1 (x + 57) 2 0) (x + 308) 0 0) (by omega)
    rw [← pq_fu 107 (by omega), show Int32.ofNat 0 = (0 : Int32) from rfl] at c1
    generalize hω : rc_up u (x + 308) 5 0 = ω
    have y0 : ∀ a, (a < x + 2 ∨ x + 29 ≤ a) → a ≠ x + 57 → a ≠ x + 308 → a ≠ x + 308 + 1 → ω a = σ a := fun a q1 q2 q3 q4 => by rw [← hω, pq_upN q3, c2 a q4, pq_upN q3, pq_upN q2, b2 a q1]
    have yc : ∀ a, x + 2 ≤ a → a < x + 29 → ω a = a1 a := fun a q1 q2 => by rw [← hω, pq_upN (by omega), c2 a (by omega), pq_upN (by omega), pq_upN (by omega)]
    have ym : ∀ j, j ≠ 0 → j ≠ 5 → ω (x + 308) j = σ (x + 308) j := fun j j1 j2 => by rw [← hω, pq_upE, pq_udN j2, c2 _ (by omega), pq_upE, pq_udN j1, pq_upN (by omega), b2 _ (by omega)]
    have y5 : ω (x + 308) 5 = 0 := by rw [← hω, pq_upE, pq_udE]
    have yx : ω x = σ x := y0 _ (by omega) (by omega) (by omega) (by omega)
    have y57 : ω (x + 57) = upd (σ (x + 57)) 2 0 := by rw [← hω, pq_upN (by omega), c2 _ (by omega), pq_upN (by omega), pq_upE, b2 _ (by omega)]
    have y3 : ω (x + 308 + 3) = σ (x + 308 + 3) := y0 _ (by omega) (by omega) (by omega) (by omega)
    have y29 : ω (x + 29) = σ (x + 29) := y0 _ (by omega) (by omega) (by omega) (by omega)
    have er : ∀ k, k < 107 → ω (x + 308 + 1) k = σ (x + 308 + 3) k := fun k hk => by rw [← hω, pq_upN (by omega), c3 k (by omega) hk, pq_upN (by omega), pq_upN (by omega), b2 _ (by omega)]
    refine ⟨0, σ (x + 308 + 3) 0, rc_up a1 (x + 57) 2 0, 0, σ (x + 308 + 3) 0, ω, ?_, ?_, Or.inl ⟨rfl, rfl⟩, ?_, fun _ => rfl, ⟨n', p', pq_Rg (pq_Rf hR' (pq_vn q2) (fun a q1 q2 => yc a q1 (by omega))) (pq_vn q2) (pq_vp q2) er, pq_Vg q2 er⟩, ⟨by rw [yx, ym _ (by decide) (by decide)]; exact s1, fun _ => ⟨n', p', by rw [y3]; exact pq_Rf q1 (pq_vn q2) (fun a _ _ => y0 a (by omega) (by omega) (by omega) (by omega)), by rw [y3]; exact q2⟩⟩, ⟨0, F, by omega, hF, by rw [y57, pq_udE]; rfl, by rw [y5]; rfl, by rw [y57, pq_udN (by decide)]; exact k3, fun j hj => by omega⟩, ⟨?_, ?_, t3, fun k hk => ?_⟩, ?_, ⟨?_, ?_, ?_⟩, L, ⟨?_, ?_, o1.2.2.1, fun k v hv => ?_⟩, ⟨?_, o2.2.1, fun k v hv => ?_⟩⟩
    · rw [f_X8_restore, if_neg h0, pq_x1 hX, pq_x3 hX, b1, pq_bd, pq_x5 hX, f_X2_forget, rc_lt, pq_bd, pq_upN (by omega), pq_c0 hR']
    · rw [f_X9_restore, rc_lt, pq_upE, pq_udN (by decide), pq_upN (by omega), b2 _ (by omega), ← s1, if_neg h0, c1, rc_lt, hω, pq_m1 hM, er 0 (by omega)]
    · rw [← hω, pq_upE, pq_udN (by decide), c2 _ (by omega), pq_upE, pq_udE]
    · rw [y0 _ (by omega) (by omega) (by omega) (by omega)]; exact t1
    · rw [ym _ (by decide) (by decide)]; exact t2
    · rw [y0 _ (by omega) (by omega) (by omega) (by omega), y0 _ (by omega) (by omega) (by omega) (by omega)]; exact t4 k hk
    · rw [yx, ym _ (by decide) (by decide)]; exact f1
    · rw [y29, ym _ (by decide) (by decide)]; exact w0
    · rw [y29, ym _ (by decide) (by decide)]; exact w1
    · rw [y29, ym _ (by decide) (by decide)]; exact w2
    · rw [y0 _ (by omega) (by omega) (by omega) (by omega)]; exact o1.1
    · rw [y0 _ (by omega) (by omega) (by omega) (by omega)]; exact o1.2.1
    · rw [y0 _ (by omega) (by omega) (by omega) (by omega)]; exact o1.2.2.2 k v hv
    · rw [ym _ (by decide) (by decide)]; exact o2.1
    · rw [y0 _ (by omega) (by omega) (by omega) (by omega)]; exact o2.2.2 k v hv
end PQU
