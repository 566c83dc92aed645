section PQZ
variable {rf : rc_F} {x : Nat}
theorem pq_Jk {σ ω : rc_S} {Bd Ln Bd' Ln' : Nat} (h : pq_J rf σ x Bd Ln) (hB : Bd ≤ Bd') (hc : ∃ n p, pq_R ω (x + 2) (ω (x + 308 + 1)) n p ∧ pq_V (ω (x + 308 + 1)) n p Bd') (hH : pq_H rf ω x Bd') (hT : pq_T ω x Ln') (h4 : ω x 4 = σ x 4) (h6 : ω (x + 308) 6 = σ (x + 308) 6) (hs : ∀ a, x + 30 ≤ a → a < x + 57 → ω a = σ a) (h3 : ω (x + 308 + 3) = σ (x + 308 + 3)) (hf : ω x 7 = ω (x + 308) 12) (hw : ω (x + 29) 0 = ω (x + 308) 13 ∧ ω (x + 29) 1 = ω (x + 308) 14 ∧ ω (x + 29) 2 = ω (x + 308) 15) (o6 : ω (x + 306) = σ (x + 306)) (o7 : ω (x + 307) = σ (x + 307)) (m11 : ω (x + 308) 11 = σ (x + 308) 11) (m7 : ω (x + 308 + 7) = σ (x + 308 + 7)) : pq_J rf ω x Bd' Ln' := by
  obtain ⟨-, ⟨s1, s2⟩, -, -, -, -, L, o1, o2⟩ := h
  refine ⟨hc, ⟨by rw [h4, h6]; exact s1, fun q => ?_⟩, hH, hT, hf, hw, L, ⟨by rw [o6]; exact o1.1, by rw [o6]; exact o1.2.1, o1.2.2.1, fun k v hv => by rw [o7]; exact o1.2.2.2 k v hv⟩, ⟨by rw [m11]; exact o2.1, o2.2.1, fun k v hv => by rw [m7]; exact o2.2.2 k v hv⟩⟩
  rw [h4] at q
  obtain ⟨n, p, q1, q2⟩ := s2 q
  rw [h3]
  exact ⟨n, p, pq_Rf q1 (pq_vn q2) (fun a a1 a2 => hs a a1 (by omega)), pq_Vm q2 hB⟩
theorem pq_T0 {ω : rc_S} (h1 : ω (x + 302) 1 = 0) (h2 : ω (x + 308) 10 = 0) : pq_T ω x 0 := ⟨h1, h2, by omega, fun k hk => by omega⟩
/-- the reference's end of 'commands' -/
def pc_K9 (rf : rc_F) (m : Nat) : rc_S → Option (Int32 × rc_S) := fun σ_14 =>
    if (σ_14 m 21) = 0 then
      if (σ_14 m 19) ≤ (σ_14 m 18) then
        f_X9_commands_108 rf m (fun v1_32 σ_33 =>
          rc_bd (f_X9_changed rf m (σ_33 m 20) σ_33) fun w_34 σ_34 =>
          some (w_34, σ_34)
        ) rc_fu (0 : Int32) σ_14
      else
        rc_lt (rc_up σ_14 m 12 (σ_14 m 18)) fun σ_35 =>
        rc_bd (f_X9_fails rf m (1 : Int32) σ_35) fun w_36 σ_36 =>
        some (w_36, σ_36)
    else
      rc_lt (rc_up σ_14 m 12 (σ_14 m 18)) fun σ_15 =>
      rc_bd (f_X9_fails rf m (1 : Int32) σ_15) fun w_16 σ_16 =>
      some (w_16, σ_16)
theorem pc_pre {m Ln : Nat} {σ u : rc_S} (e : f_X9_remembers rf m σ = some ((), u)) (h10 : u m 10 = Int32.ofNat Ln) : f_X9_commands rf m σ = rc_bd (f_X9_readsOne rf m (pc_t7 u m (Int32.ofNat Ln))) fun _ σ_8 => f_X9_commands_41 rf m (pc_K9 rf m) rc_fu σ_8 := by
  rw [f_X9_commands, e, pq_bd, rc_lt, rc_lt, pq_upE, pq_udN (by decide), h10]
  rfl
theorem pc_K9f {m a' Ln : Nat} {t : rc_S} (hL : Ln ≤ 60) (ha : a' ≤ Ln) (h18 : t m 18 = Int32.ofNat a') (h19 : t m 19 = Int32.ofNat Ln) (h : t m 21 = 1 ∨ (t m 21 = 0 ∧ a' < Ln)) : pc_K9 rf m t = some (0, rc_up (rc_up t m 12 (Int32.ofNat a')) m 0 1) := by
  unfold pc_K9
  rcases h with h | ⟨h, hl⟩
  · rw [if_neg (by rw [h]; decide), h18, rc_lt, f_X9_fails, rc_lt, pq_bd]
  · rw [if_pos h, h18, h19, if_neg (fun q => by have := (pq_le (by omega) (by omega)).mp q; omega), rc_lt, f_X9_fails, rc_lt, pq_bd]
theorem q_commands {Bd Ln : Nat} (hX : pq_X rf x) (hBL : Bd + Ln ≤ 900) : pq_Z rf x Bd Ln (Bd + Ln) 0 (f_X8_commands rf x) (f_X9_commands rf (x + 308)) (fun k cd => (k = 0 ∧ cd = 0) ∨ (k = 3 ∧ cd = 1) ∨ (k = 1 ∧ cd = 2)) := by
  intro σ hJ
  have hM := pq_xm hX
  have hJ0 := hJ
  obtain ⟨⟨n, p, r1, r2⟩, -, ⟨K, F, hK, hF, k1, k2, k3, kj⟩, ⟨t1, t2, t3, t4⟩, f1, ⟨w0, w1, w2⟩, -⟩ := hJ
  have hm9 : (F + K) % 9 < 9 := Nat.mod_lt _ (by decide)
  have hT1 : ∀ k, k < Ln → vp_nar .char (σ (x + 303) k) = σ (x + 303) k ∧ σ (x + 303) k ≠ -1 := fun k hk => ⟨(t4 k hk).2, pc_nm1 (t4 k hk).2⟩
  obtain ⟨nc, hnc⟩ := pc_any (σ (x + 302) 6)
  have c0 : pc_c (rc_up (rc_up σ (x + 302) 5 0) (x + 302) 4 0) x 0 0 nc Ln (fun k => σ (x + 303) k) := ⟨by rw [pq_upE, pq_udN (by decide), pq_upE, pq_udE]; rfl, by rw [pq_upE, pq_udE]; rfl, by rw [pq_upE, pq_udN (by decide), pq_upE, pq_udN (by decide)]; exact hnc, by rw [pq_upE, pq_udN (by decide), pq_upE, pq_udN (by decide)]; exact t1, fun k _ => by rw [pq_upN (by omega), pq_upN (by omega)]⟩
  have S := fun (τ : rc_S) (hr : pc_r τ (x + 308) 0 0 0 Ln (fun k => σ (x + 303) k)) => pc_seq hX t3 hT1 Ln 0 0 nc _ τ (by omega) (by omega) c0 hr (fun c hc => by omega)
  obtain ⟨s1, td, res, rd, -, FF, -, -, alt⟩ := S (pc_t7 σ (x + 308) (Int32.ofNat Ln)) (pc_t7r (fun k hk => (t4 k hk).1.symm))
  have rdf := rd (99999 - Ln)
  rw [← pq_fu Ln (by omega)] at rdf
  -- the reference reads alike, wherever it begins
  have S2 : ∀ u : rc_S, (∀ k, k < Ln → u (x + 308 + 5) k = σ (x + 303) k) → ∃ t, (∀ K : rc_S → Option (Int32 × rc_S), (rc_bd (f_X9_readsOne rf (x + 308) (pc_t7 u (x + 308) (Int32.ofNat Ln))) fun _ τ1 => f_X9_commands_41 rf (x + 308) K rc_fu τ1) = K t) ∧ pc_G2 (pc_t7 u (x + 308) (Int32.ofNat Ln)) t (x + 308) ∧ t (x + 308) 19 = Int32.ofNat Ln ∧ ((res = -1 ∧ ∃ cc', s1 (x + 302) 4 = Int32.ofNat cc' ∧ t (x + 308) 20 = Int32.ofNat cc' ∧ cc' ≤ Ln ∧ cc' < 60 ∧ t (x + 308) 21 = 0 ∧ t (x + 308) 18 = Int32.ofNat Ln ∧ ∀ c, c < cc' → pc_s s1 t x c) ∨ (∃ a', a' ≤ Ln ∧ res = Int32.ofNat a' ∧ t (x + 308) 18 = Int32.ofNat a' ∧ (t (x + 308) 21 = 1 ∨ (t (x + 308) 21 = 0 ∧ a' < Ln)))) := fun u hu => by
    obtain ⟨s1', t, res', rd', rk, -, G, e19, alt'⟩ := S _ (pc_t7r hu)
    have z := (rd 0).symm.trans (rd' 0)
    cases z
    refine ⟨t, fun K => ?_, G, e19, alt'⟩
    have z := rk K (99999 - Ln)
    rw [← pq_fu Ln (by omega)] at z
    exact z
  have hread : f_X6_read rf (x + 302) σ = some (res, s1) := by rw [f_X6_read, rc_lt, rc_lt]; exact rdf
  -- the class's cells behind the reading
  generalize hσ3 : rc_up (rc_up s1 x 7 res) (x + 302) 1 0 = σ3
  have y3 : ∀ a, a ≠ x → a ≠ x + 302 → a ≠ x + 304 → a ≠ x + 305 → σ3 a = σ a := fun a q1 q2 q3 q4 => by rw [← hσ3, pq_upN q2, pq_upN q1, FF.1 a q2 q3 q4, pq_upN q2, pq_upN q2]
  have y3x : σ3 x = upd (σ x) 7 res := by rw [← hσ3, pq_upN (by omega), pq_upE, FF.1 x (by omega) (by omega) (by omega), pq_upN (by omega), pq_upN (by omega)]
  have y3t : σ3 (x + 302) 1 = 0 := by rw [← hσ3, pq_upE, pq_udE]
  have y3c : σ3 (x + 302) 4 = s1 (x + 302) 4 := by rw [← hσ3, pq_upE, pq_udN (by decide), pq_upN (by omega)]
  have y304 : σ3 (x + 304) = s1 (x + 304) := by rw [← hσ3, pq_upN (by omega), pq_upN (by omega)]
  have y305 : σ3 (x + 305) = s1 (x + 305) := by rw [← hσ3, pq_upN (by omega), pq_upN (by omega)]
  have hcl : f_X8_commands rf x σ = if res = -1 then rc_bd (f_X2_setAside rf (x + 57) (x + 2) σ3) fun _ σ_4 => f_X8_commands_47 rf x (fun v1_12 σ_13 => rc_bd (f_X2_keepAside rf (rf x 5) σ_13) fun _ σ_14 => some (0, (σ_14 (rf x 6) 4), σ_14)) rc_fu (0 : Int32) σ_4 else some (3, (0 : Int32), σ3) := by
    rw [f_X8_commands, pq_x6 hX, hread, pq_bd, rc_lt, f_X6_makeEmpty, rc_lt, pq_bd, hσ3, y3x, pq_udE, pq_x5 hX, pq_x1 hX]
  by_cases hres : res = -1
  · -- the text is read
    obtain ⟨cc, g4, gcc, gc6, gfo⟩ : ∃ cc, s1 (x + 302) 4 = Int32.ofNat cc ∧ cc ≤ Ln ∧ cc < 60 ∧ ∀ c, c < cc → pc_fo (s1 (x + 304) c) < 5 := by
      rcases alt with ⟨-, cc, a1, -, a2, a3, -, -, a4⟩ | ⟨a', a1, a2, -⟩
      · exact ⟨cc, a1, a2, a3, fun c hc => (a4 c hc).1⟩
      · rw [hres] at a2; exact absurd a2.symm (pq_nnN (by omega))
    obtain ⟨σ4, b1, b2, b3⟩ := q8_set (σ := σ3) hX hK hF (by rw [y3 _ (by omega) (by omega) (by omega) (by omega)]; exact k1) (by rw [y3 _ (by omega) (by omega) (by omega) (by omega)]; exact k3)
    have r3 := pq_Rf r1 (pq_vn r2) (σ' := σ3) (fun a q1 q2 => y3 a (by omega) (by omega) (by omega) (by omega))
    have r4 := pq_Rf r3 (pq_vn r2) (σ' := σ4) (fun a q1 q2 => b2 a (by omega))
    have rs := b3 _ n p Bd r3 r2
    have y4 : ∀ a, a ≠ x → a ≠ x + 302 → a ≠ x + 304 → a ≠ x + 305 → (a < x + 59 + 27 * ((F + K) % 9) ∨ x + 59 + 27 * ((F + K) % 9) + 27 ≤ a) → σ4 a = σ a := fun a q1 q2 q3 q4 q5 => by rw [b2 a q5, y3 a q1 q2 q3 q4]
    have L4 := pc_loop hX gc6 cc 0 σ4 _ n p Bd (by omega) (by rw [b2 _ (by omega), y3c]; exact g4) (fun c hc => by rw [b2 _ (by omega), y304]; exact gfo c hc) r4 r2 (by omega)
    have ps4 : ∀ t c, pc_s s1 t x c → pc_s σ4 t x c := fun t c h => by
      unfold pc_s at h ⊢
      rw [b2 (x + 304) (by omega), b2 (x + 305) (by omega), y304, y305]; exact h
    rw [if_pos hres, b1, pq_bd] at hcl
    rcases L4 with ⟨σ5, g', n', p', l1, l2, l3, l4, l5⟩ | ⟨σ5, code, det, i', l0, l1, l2, l3, l4, l5⟩
    · -- all are carried out
      have l1' := l1 (fun v1_12 σ_13 => rc_bd (f_X2_keepAside rf (rf x 5) σ_13) fun _ σ_14 => some (0, (σ_14 (rf x 6) 4), σ_14)) (99999 - cc)
      rw [← pq_fu cc (by omega), show Int32.ofNat 0 = (0 : Int32) from rfl] at l1'
      obtain ⟨σ6, c1, c2, c3, c4⟩ := q8_keep (σ := σ5) hX hK hF (by rw [l2 _ (by omega), y4 _ (by omega) (by omega) (by omega) (by omega) (by omega)]; exact k1) (by rw [l2 _ (by omega), y4 _ (by omega) (by omega) (by omega) (by omega) (by omega)]; exact k3)
      have y6 : ∀ a, (a < x + 2 ∨ x + 29 ≤ a) → a ≠ x + 57 → σ6 a = σ4 a := fun a q1 q2 => by rw [c2 a q2, l2 a q1]
      obtain ⟨u, v1, v2, v3, v4, v5⟩ := q9_remS hM σ6
      have um : ∀ a, x + 308 < a → a ≠ x + 308 + 2 → u a = σ a := fun a q1 q2 => by rw [v2 a (by omega) q2, y6 a (by omega) (by omega), y4 a (by omega) (by omega) (by omega) (by omega) (by omega)]
      have umj : ∀ j, j ≠ 0 → u (x + 308) j = σ (x + 308) j := fun j hj => by rw [v4 j hj, y6 _ (by omega) (by omega), y4 _ (by omega) (by omega) (by omega) (by omega) (by omega)]
      obtain ⟨t, d1, d2, d3, d4⟩ := S2 u (fun k hk => by rw [um _ (by omega) (by omega)]; exact (t4 k hk).1.symm)
      rcases d4 with ⟨-, cc2, e1, e2, e6, e7, e3, e4, e5⟩ | ⟨a', a1, a2, -⟩
      · have hcc : cc2 = cc := by rw [g4] at e1; exact ((pq_eq (by omega) (by omega)).mp e1).symm
        subst hcc
        have tN : ∀ a, a ≠ x + 308 → a ≠ x + 308 + 6 → t a = u a := fun a q1 q2 => by rw [d2.1 a q1 q2, pc_t7N q1]
        have tm : ∀ j, j ≠ 10 → j ≠ 12 → j ≠ 18 → j ≠ 19 → j ≠ 20 → j ≠ 21 → t (x + 308) j = u (x + 308) j := fun j q1 q2 q3 q4 q5 q6 => by rw [d2.2 j q3 q5 q6, pc_t7m ⟨q3, q4, q1, q5, q6, q2⟩]
        have t10 : t (x + 308) 10 = 0 := by rw [d2.2 _ (by decide) (by decide) (by decide)]; exact pc_t7o.1
        have t12 : t (x + 308) 12 = -1 := by rw [d2.2 _ (by decide) (by decide) (by decide)]; exact pc_t7o.2
        obtain ⟨t2', h1, h2, h3, h4⟩ := l5 t (by rw [tN _ (by omega) (by omega), um _ (by omega) (by omega)]) e2 (fun c hc => ps4 t c (e5 c hc))
        have h1 := h1 (fun v1_32 σ_33 => rc_bd (f_X9_changed rf (x + 308) (σ_33 (x + 308) 20) σ_33) fun w_34 σ_34 => some (w_34, σ_34)) (99999 - cc2)
        rw [← pq_fu cc2 (by omega), show Int32.ofNat 0 = (0 : Int32) from rfl] at h1
        obtain ⟨u3, i1, i2, i3, i4, i5, i6⟩ := q9_chgS hM t2' hK (by rw [h4 _ (by decide), tm _ (by decide) (by decide) (by decide) (by decide) (by decide) (by decide), umj _ (by decide)]; exact k2) (Int32.ofNat cc2)
        have z1 : ∀ a, x + 308 < a → a ≠ x + 308 + 1 → a ≠ x + 308 + 2 → a ≠ x + 308 + 4 → a ≠ x + 308 + 6 → u3 a = σ a := fun a q1 q2 q3 q4 q5 => by rw [i4 a (by omega) q4, h3 a (by omega) q2, tN a (by omega) q5, um a q1 q3]
        have zm : ∀ j, j ≠ 0 → j ≠ 5 → j ≠ 10 → j ≠ 12 → j ≠ 17 → j ≠ 18 → j ≠ 19 → j ≠ 20 → j ≠ 21 → u3 (x + 308) j = σ (x + 308) j := fun j q0 q1 q2 q3 q4 q5 q6 q7 q8 => by rw [i3 j q1, h4 j q4, tm j q2 q3 q5 q6 q7 q8, umj j q0]
        have z6 : ∀ a, a < x + 308 → u3 a = σ6 a := fun a q => by rw [i4 a (by omega) (by omega), h3 a (by omega) (by omega), tN a (by omega) (by omega), v2 a (by omega) (by omega)]
        have zlow : ∀ a, a < x + 308 → (a < x + 2 ∨ x + 29 ≤ a) → a ≠ x + 57 → a ≠ x → a ≠ x + 302 → a ≠ x + 304 → a ≠ x + 305 → (a < x + 59 + 27 * ((F + K) % 9) ∨ x + 59 + 27 * ((F + K) % 9) + 27 ≤ a) → u3 a = σ a := fun a q0 q1 q2 q3 q4 q5 q6 q7 => by rw [z6 a q0, y6 a q1 q2, y4 a q3 q4 q5 q6 q7]
        have zx : u3 x = upd (σ x) 7 res := by rw [z6 _ (by omega), y6 _ (by omega) (by omega), b2 _ (by omega), y3x]
        have z302 : u3 (x + 302) = σ3 (x + 302) := by rw [z6 _ (by omega), y6 _ (by omega) (by omega), b2 _ (by omega)]
        have z309 : u3 (x + 308 + 1) = g' := by rw [i4 _ (by omega) (by omega)]; exact h2
        refine ⟨0, Int32.ofNat cc2, σ6, 0, Int32.ofNat cc2, u3, ?_, ?_, Or.inl ⟨rfl, rfl⟩, ?_, fun _ => rfl, pq_Jk hJ0 (by omega) ⟨n', p', ?_, ?_⟩ ?_ (pq_T0 ?_ ?_) ?_ ?_ ?_ ?_ ?_ ⟨?_, ?_, ?_⟩ ?_ ?_ ?_ ?_⟩
        · rw [hcl, l1', pq_x5 hX, c1, pq_bd, pq_x6 hX, y6 _ (by omega) (by omega), b2 _ (by omega), y3c, g4]
        · rw [pc_pre v1 (by rw [umj _ (by decide)]; exact t2), d1]
          unfold pc_K9
          rw [if_pos e3, d3, e4, if_pos (Int32.le_refl _), h1, h4 _ (by decide), e2, i1, pq_bd]
        · rw [i3 _ (by decide), h4 _ (by decide), tm _ (by decide) (by decide) (by decide) (by decide) (by decide) (by decide)]; exact v3
        · rw [z309]; exact pq_Rf l3 (pq_vn l4) (fun a q1 q2 => by rw [z6 a (by omega), c2 a (by omega)])
        · rw [z309]; exact pq_Vm l4 (by omega)
        · refine pq_Hn (σ := σ) hK hF kj (g := σ (x + 308 + 1)) (n := n) (p := p) (pq_Rf rs (pq_vn r2) (fun a q1 q2 => ?_)) r2 ?_ i2 ?_ (fun a q1 q2 q3 => zlow a (by omega) (by omega) (by omega) (by omega) (by omega) (by omega) (by omega) q3) (fun k hk => ?_) (fun j hj k hk => ?_) (by omega)
          · rw [z6 a (by omega), y6 a (by omega) (by omega)]
          · rw [z6 _ (by omega)]; exact c3
          · rw [z6 _ (by omega)]; exact c4
          · rw [i5 k hk, h3 _ (by omega) (by omega), tN _ (by omega) (by omega), v5 k hk, y6 _ (by omega) (by omega), y4 _ (by omega) (by omega) (by omega) (by omega) (by omega)]
          · rw [i6 j hj k hk, h3 _ (by omega) (by omega), tN _ (by omega) (by omega), um _ (by omega) (by omega)]
        · rw [z302]; exact y3t
        · rw [i3 _ (by decide), h4 _ (by decide)]; exact t10
        · rw [zx, pq_udN (by decide)]
        · exact zm _ (by decide) (by decide) (by decide) (by decide) (by decide) (by decide) (by decide) (by decide) (by decide)
        · exact fun a q1 q2 => zlow a (by omega) (by omega) (by omega) (by omega) (by omega) (by omega) (by omega) (by omega)
        · exact z1 _ (by omega) (by omega) (by omega) (by omega) (by omega)
        · rw [zx, pq_udE, i3 _ (by decide), h4 _ (by decide), t12, hres]
        · rw [zlow _ (by omega) (by omega) (by omega) (by omega) (by omega) (by omega) (by omega) (by omega), zm _ (by decide) (by decide) (by decide) (by decide) (by decide) (by decide) (by decide) (by decide) (by decide)]; exact w0
        · rw [zlow _ (by omega) (by omega) (by omega) (by omega) (by omega) (by omega) (by omega) (by omega), zm _ (by decide) (by decide) (by decide) (by decide) (by decide) (by decide) (by decide) (by decide) (by decide)]; exact w1
        · rw [zlow _ (by omega) (by omega) (by omega) (by omega) (by omega) (by omega) (by omega) (by omega), zm _ (by decide) (by decide) (by decide) (by decide) (by decide) (by decide) (by decide) (by decide) (by decide)]; exact w2
        · exact zlow _ (by omega) (by omega) (by omega) (by omega) (by omega) (by omega) (by omega) (by omega)
        · exact zlow _ (by omega) (by omega) (by omega) (by omega) (by omega) (by omega) (by omega) (by omega)
        · exact zm _ (by decide) (by decide) (by decide) (by decide) (by decide) (by decide) (by decide) (by decide) (by decide)
        · exact z1 _ (by omega) (by omega) (by omega) (by omega) (by omega)
      · rw [hres] at a2; exact absurd a2.symm (pq_nnN (by omega))
    · -- one is refused
      have l1' := l1 (fun v1_12 σ_13 => rc_bd (f_X2_keepAside rf (rf x 5) σ_13) fun _ σ_14 => some (0, (σ_14 (rf x 6) 4), σ_14)) (99999 - cc)
      rw [← pq_fu cc (by omega), show Int32.ofNat 0 = (0 : Int32) from rfl] at l1'
      have ha := q8_asd (σ := σ5) hX hK hF (by rw [l2 _ (by omega), y4 _ (by omega) (by omega) (by omega) (by omega) (by omega)]; exact k1) (by rw [l2 _ (by omega), y4 _ (by omega) (by omega) (by omega) (by omega) (by omega)]; exact k3)
      obtain ⟨σ8, c1, c2, c3⟩ := qc (rf := rf) (c1 := x + 2) (c2 := x + 59 + 27 * ((F + K) % 9)) (pq_xk hX) (pq_xh hX hm9) (by omega) σ5
      have r8 := c3 _ n p Bd (pq_Rf rs (pq_vn r2) (fun a q1 q2 => l2 a (by omega))) r2
      generalize hσ9 : rc_up σ8 (x + 29) 2 (Int32.ofNat i') = σ9
      have y9 : ∀ a, (a < x + 2 ∨ x + 30 ≤ a) → σ9 a = σ4 a := fun a q1 => by rw [← hσ9, pq_upN (by omega), c2 a (by omega), l2 a q1]
      obtain ⟨u, v1, v2, v3, v4, v5⟩ := q9_remS hM σ9
      have um : ∀ a, x + 308 < a → a ≠ x + 308 + 2 → u a = σ a := fun a q1 q2 => by rw [v2 a (by omega) q2, y9 a (by omega), y4 a (by omega) (by omega) (by omega) (by omega) (by omega)]
      have umj : ∀ j, j ≠ 0 → u (x + 308) j = σ (x + 308) j := fun j hj => by rw [v4 j hj, y9 _ (by omega), y4 _ (by omega) (by omega) (by omega) (by omega) (by omega)]
      obtain ⟨t, d1, d2, d3, d4⟩ := S2 u (fun k hk => by rw [um _ (by omega) (by omega)]; exact (t4 k hk).1.symm)
      rcases d4 with ⟨-, cc2, e1, e2, e6, e7, e3, e4, e5⟩ | ⟨a', a1, a2, -⟩
      · have hcc : cc2 = cc := by rw [g4] at e1; exact ((pq_eq (by omega) (by omega)).mp e1).symm
        subst hcc
        have tN : ∀ a, a ≠ x + 308 → a ≠ x + 308 + 6 → t a = u a := fun a q1 q2 => by rw [d2.1 a q1 q2, pc_t7N q1]
        have tm : ∀ j, j ≠ 10 → j ≠ 12 → j ≠ 18 → j ≠ 19 → j ≠ 20 → j ≠ 21 → t (x + 308) j = u (x + 308) j := fun j q1 q2 q3 q4 q5 q6 => by rw [d2.2 j q3 q5 q6, pc_t7m ⟨q3, q4, q1, q5, q6, q2⟩]
        have t10 : t (x + 308) 10 = 0 := by rw [d2.2 _ (by decide) (by decide) (by decide)]; exact pc_t7o.1
        have t12 : t (x + 308) 12 = -1 := by rw [d2.2 _ (by decide) (by decide) (by decide)]; exact pc_t7o.2
        obtain ⟨t2', h1, h2, h3, h4⟩ := l5 t (by rw [tN _ (by omega) (by omega), um _ (by omega) (by omega)]) e2 (fun c hc => ps4 t c (e5 c hc))
        have h1 := h1 (fun v1_32 σ_33 => rc_bd (f_X9_changed rf (x + 308) (σ_33 (x + 308) 20) σ_33) fun w_34 σ_34 => some (w_34, σ_34)) (99999 - cc2)
        rw [← pq_fu cc2 (by omega), show Int32.ofNat 0 = (0 : Int32) from rfl] at h1
        obtain ⟨u4, i1, i2, i3, -⟩ := q9_rev hM (Int32.ofNat i') code 107 (99999 - 107) 0 t2' (by omega)
        rw [← pq_fu 107 (by omega), show Int32.ofNat 0 = (0 : Int32) from rfl] at i1
        generalize hω : rc_up (rc_up (rc_up (rc_up u4 (x + 308) 13 code) (x + 308) 14 det) (x + 308) 15 (Int32.ofNat i')) (x + 308) 0 2 = ω
        have o1 : ∀ a, a ≠ x + 308 → a ≠ x + 308 + 1 → ω a = t2' a := fun a q1 q2 => by rw [← hω]; simp only [pq_upN q1]; exact i2 a q2
        have om : ∀ j, j ≠ 0 → j ≠ 13 → j ≠ 14 → j ≠ 15 → ω (x + 308) j = t2' (x + 308) j := fun j q0 q1 q2 q3 => by rw [← hω]; simp only [pq_upE, pq_udN q0, pq_udN q1, pq_udN q2, pq_udN q3]; rw [i2 _ (by omega)]
        have om0 : ω (x + 308) 0 = 2 := by rw [← hω, pq_upE, pq_udE]
        have om13 : ω (x + 308) 13 = code := by rw [← hω]; simp [pq_upE, upd]
        have om14 : ω (x + 308) 14 = det := by rw [← hω]; simp [pq_upE, upd]
        have om15 : ω (x + 308) 15 = Int32.ofNat i' := by rw [← hω]; simp [pq_upE, upd]
        have z1 : ∀ a, x + 308 < a → a ≠ x + 308 + 1 → a ≠ x + 308 + 2 → a ≠ x + 308 + 6 → ω a = σ a := fun a q1 q2 q3 q5 => by rw [o1 a (by omega) q2, h3 a (by omega) q2, tN a (by omega) q5, um a q1 q3]
        have zm : ∀ j, j ≠ 0 → j ≠ 10 → j ≠ 12 → j ≠ 13 → j ≠ 14 → j ≠ 15 → j ≠ 16 → j ≠ 17 → j ≠ 18 → j ≠ 19 → j ≠ 20 → j ≠ 21 → ω (x + 308) j = σ (x + 308) j := fun j q0 q2 q3 p1 p2 p3 p4 q4 q5 q6 q7 q8 => by rw [om j q0 p1 p2 p3, h4 j p4 q4, tm j q2 q3 q5 q6 q7 q8, umj j q0]
        have z9 : ∀ a, a < x + 308 → ω a = σ9 a := fun a q => by rw [o1 a (by omega) (by omega), h3 a (by omega) (by omega), tN a (by omega) (by omega), v2 a (by omega) (by omega)]
        have zlow : ∀ a, a < x + 308 → (a < x + 2 ∨ x + 30 ≤ a) → a ≠ x → a ≠ x + 302 → a ≠ x + 304 → a ≠ x + 305 → (a < x + 59 + 27 * ((F + K) % 9) ∨ x + 59 + 27 * ((F + K) % 9) + 27 ≤ a) → ω a = σ a := fun a q0 q1 q3 q4 q5 q6 q7 => by rw [z9 a q0, y9 a q1, y4 a q3 q4 q5 q6 q7]
        have zx : ω x = upd (σ x) 7 res := by rw [z9 _ (by omega), y9 _ (by omega), b2 _ (by omega), y3x]
        have z302 : ω (x + 302) = σ3 (x + 302) := by rw [z9 _ (by omega), y9 _ (by omega), b2 _ (by omega)]
        have z29 : ω (x + 29) = upd (σ5 (x + 29)) 2 (Int32.ofNat i') := by rw [z9 _ (by omega), ← hσ9, pq_upE, c2 _ (by omega)]
        have er : ∀ k, k < 107 → ω (x + 308 + 1) k = σ (x + 308 + 1) k := fun k hk => by
          rw [← hω]
          simp (disch := omega) only [pq_upN]
          rw [i3 k (by omega) hk, h3 _ (by omega) (by omega), tN _ (by omega) (by omega), v5 k hk, y9 _ (by omega), y4 _ (by omega) (by omega) (by omega) (by omega) (by omega)]
        refine ⟨1, 0, σ9, 2, 0, ω, ?_, ?_, Or.inr (Or.inr ⟨rfl, rfl⟩), om0, (fun q => nomatch q), pq_Jk hJ0 (by omega) ⟨n, p, ?_, pq_Vg (pq_Vm r2 (by omega)) er⟩ ⟨K, F, hK, hF, ?_, ?_, ?_, fun j hj => ?_⟩ (pq_T0 ?_ ?_) ?_ ?_ ?_ ?_ ?_ ⟨?_, ?_, ?_⟩ ?_ ?_ ?_ ?_⟩
        · rw [hcl, l1', pq_x5 hX, ha, pq_bd, pq_x1 hX, c1, pq_bd, pq_x2 hX, rc_lt, hσ9]
        · rw [pc_pre v1 (by rw [umj _ (by decide)]; exact t2), d1]
          unfold pc_K9
          rw [if_pos e3, d3, e4, if_pos (Int32.le_refl _), h1, i1]
          simp only [rc_lt, pq_upE, f_X9_fails, pq_bd]
          rw [pq_udN (by decide), i2 _ (by omega), h2, hω]
        · exact pq_Rg (pq_Rf r8 (pq_vn r2) (fun a q1 q2 => by rw [z9 a (by omega), ← hσ9, pq_upN (by omega)])) (pq_vn r2) (pq_vp r2) er
        · rw [zlow _ (by omega) (by omega) (by omega) (by omega) (by omega) (by omega) (by omega)]; exact k1
        · rw [zm _ (by decide) (by decide) (by decide) (by decide) (by decide) (by decide) (by decide) (by decide) (by decide) (by decide) (by decide) (by decide)]; exact k2
        · rw [zlow _ (by omega) (by omega) (by omega) (by omega) (by omega) (by omega) (by omega)]; exact k3
        · obtain ⟨n2, p2, q1, q2⟩ := kj j hj
          have hm3 : (F + j) % 9 < 9 := Nat.mod_lt _ (by decide)
          have hne : (F + j) % 9 ≠ (F + K) % 9 := by omega
          rw [z1 (x + 308 + 4) (by omega) (by omega) (by omega) (by omega)]
          exact ⟨n2, p2, pq_Rf q1 (pq_vn q2) (fun a a1 a2 => zlow a (by omega) (by omega) (by omega) (by omega) (by omega) (by omega) (by omega)), pq_Vm q2 (by omega)⟩
        · rw [z302]; exact y3t
        · rw [om _ (by decide) (by decide) (by decide) (by decide), h4 _ (by decide) (by decide)]; exact t10
        · rw [zx, pq_udN (by decide)]
        · exact zm _ (by decide) (by decide) (by decide) (by decide) (by decide) (by decide) (by decide) (by decide) (by decide) (by decide) (by decide) (by decide)
        · exact fun a q1 q2 => zlow a (by omega) (by omega) (by omega) (by omega) (by omega) (by omega) (by omega)
        · exact z1 _ (by omega) (by omega) (by omega) (by omega)
        · rw [zx, pq_udE, om _ (by decide) (by decide) (by decide) (by decide), h4 _ (by decide) (by decide), t12, hres]
        · rw [z29, pq_udN (by decide), om13]; exact l3
        · rw [z29, pq_udN (by decide), om14]; exact l4
        · rw [z29, pq_udE, om15]
        · exact zlow _ (by omega) (by omega) (by omega) (by omega) (by omega) (by omega) (by omega)
        · exact zlow _ (by omega) (by omega) (by omega) (by omega) (by omega) (by omega) (by omega)
        · exact zm _ (by decide) (by decide) (by decide) (by decide) (by decide) (by decide) (by decide) (by decide) (by decide) (by decide) (by decide) (by decide)
        · exact z1 _ (by omega) (by omega) (by omega) (by omega)
      · rw [hres] at a2; exact absurd a2.symm (pq_nnN (by omega))
  · -- a fault in the text
    rw [if_neg hres] at hcl
    obtain ⟨u, v1, v2, v3, v4, v5⟩ := q9_remS hM σ3
    have um : ∀ a, x + 308 < a → a ≠ x + 308 + 2 → u a = σ a := fun a q1 q2 => by rw [v2 a (by omega) q2, y3 a (by omega) (by omega) (by omega) (by omega)]
    have umj : ∀ j, j ≠ 0 → u (x + 308) j = σ (x + 308) j := fun j hj => by rw [v4 j hj, y3 _ (by omega) (by omega) (by omega) (by omega)]
    obtain ⟨t, d1, d2, d3, d4⟩ := S2 u (fun k hk => by rw [um _ (by omega) (by omega)]; exact (t4 k hk).1.symm)
    rcases d4 with ⟨q, -⟩ | ⟨a', a1, a2, a3, a4⟩
    · exact absurd q hres
    · have tN : ∀ a, a ≠ x + 308 → a ≠ x + 308 + 6 → t a = u a := fun a q1 q2 => by rw [d2.1 a q1 q2, pc_t7N q1]
      have tm : ∀ j, j ≠ 10 → j ≠ 12 → j ≠ 18 → j ≠ 19 → j ≠ 20 → j ≠ 21 → t (x + 308) j = u (x + 308) j := fun j q1 q2 q3 q4 q5 q6 => by rw [d2.2 j q3 q5 q6, pc_t7m ⟨q3, q4, q1, q5, q6, q2⟩]
      have t10 : t (x + 308) 10 = 0 := by rw [d2.2 _ (by decide) (by decide) (by decide)]; exact pc_t7o.1
      generalize hω : rc_up (rc_up t (x + 308) 12 (Int32.ofNat a')) (x + 308) 0 1 = ω
      have o1 : ∀ a, a ≠ x + 308 → ω a = t a := fun a q1 => by rw [← hω, pq_upN q1, pq_upN q1]
      have om : ∀ j, j ≠ 0 → j ≠ 12 → ω (x + 308) j = t (x + 308) j := fun j q0 q1 => by rw [← hω, pq_upE, pq_udN q0, pq_upE, pq_udN q1]
      have z1 : ∀ a, x + 308 < a → a ≠ x + 308 + 2 → a ≠ x + 308 + 6 → ω a = σ a := fun a q1 q2 q3 => by rw [o1 a (by omega), tN a (by omega) q3, um a q1 q2]
      have zm : ∀ j, j ≠ 0 → j ≠ 10 → j ≠ 12 → j ≠ 18 → j ≠ 19 → j ≠ 20 → j ≠ 21 → ω (x + 308) j = σ (x + 308) j := fun j q0 q2 q3 q5 q6 q7 q8 => by rw [om j q0 q3, tm j q2 q3 q5 q6 q7 q8, umj j q0]
      have z3 : ∀ a, a < x + 308 → ω a = σ3 a := fun a q => by rw [o1 a (by omega), tN a (by omega) (by omega), v2 a (by omega) (by omega)]
      have zlow : ∀ a, a < x + 308 → a ≠ x → a ≠ x + 302 → a ≠ x + 304 → a ≠ x + 305 → ω a = σ a := fun a q0 q3 q4 q5 q6 => by rw [z3 a q0, y3 a q3 q4 q5 q6]
      have y1 : ω (x + 308 + 1) = σ (x + 308 + 1) := z1 _ (by omega) (by omega) (by omega)
      have zx : ω x = upd (σ x) 7 res := by rw [z3 _ (by omega), y3x]
      refine ⟨3, 0, σ3, 1, 0, ω, hcl, ?_, Or.inr (Or.inl ⟨rfl, rfl⟩), by rw [← hω, pq_upE, pq_udE], (fun q => nomatch q), pq_Jk hJ0 (by omega) ⟨n, p, by rw [y1]; exact pq_Rf r1 (pq_vn r2) (fun a q1 q2 => zlow a (by omega) (by omega) (by omega) (by omega) (by omega)), by rw [y1]; exact pq_Vm r2 (by omega)⟩ (pq_Hf ⟨K, F, hK, hF, k1, k2, k3, kj⟩ (by omega) (zlow _ (by omega) (by omega) (by omega) (by omega) (by omega)) (zm _ (by decide) (by decide) (by decide) (by decide) (by decide) (by decide) (by decide)) (fun a q1 q2 => zlow a (by omega) (by omega) (by omega) (by omega) (by omega)) (z1 _ (by omega) (by omega) (by omega))) (pq_T0 ?_ ?_) ?_ ?_ ?_ ?_ ?_ ⟨?_, ?_, ?_⟩ ?_ ?_ ?_ ?_⟩
      · rw [pc_pre v1 (by rw [umj _ (by decide)]; exact t2), d1, pc_K9f t3 a1 a3 d3 a4, hω]
      · rw [z3 _ (by omega)]; exact y3t
      · rw [om _ (by decide) (by decide)]; exact t10
      · rw [zx, pq_udN (by decide)]
      · exact zm _ (by decide) (by decide) (by decide) (by decide) (by decide) (by decide) (by decide)
      · exact fun a q1 q2 => zlow a (by omega) (by omega) (by omega) (by omega) (by omega)
      · exact z1 _ (by omega) (by omega) (by omega)
      · rw [zx, pq_udE, a2, ← hω, pq_upE, pq_udN (by decide), pq_upE, pq_udE]
      · rw [zlow _ (by omega) (by omega) (by omega) (by omega) (by omega), zm _ (by decide) (by decide) (by decide) (by decide) (by decide) (by decide) (by decide)]; exact w0
      · rw [zlow _ (by omega) (by omega) (by omega) (by omega) (by omega), zm _ (by decide) (by decide) (by decide) (by decide) (by decide) (by decide) (by decide)]; exact w1
      · rw [zlow _ (by omega) (by omega) (by omega) (by omega) (by omega), zm _ (by decide) (by decide) (by decide) (by decide) (by decide) (by decide) (by decide)]; exact w2
      · exact zlow _ (by omega) (by omega) (by omega) (by omega) (by omega)
      · exact zlow _ (by omega) (by omega) (by omega) (by omega) (by omega)
      · exact zm _ (by decide) (by decide) (by decide) (by decide) (by decide) (by decide) (by decide)
      · exact z1 _ (by omega) (by omega) (by omega)
end PQZ
