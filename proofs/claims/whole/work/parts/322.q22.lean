section PQG
variable {rf : rc_F} {x cc : Nat}
/-- the commands, one behind another: the class's run, and the reference's on any state that fits -/
theorem pc_loop (hX : pq_X rf x) (hcc : cc < 60) : ∀ (d i : Nat) (σ : rc_S) (g : Nat → Int32) (n p Bd : Nat), i + d = cc → σ (x + 302) 4 = Int32.ofNat cc → (∀ c, c < cc → pc_fo (σ (x + 304) c) < 5) → pq_R σ (x + 2) g n p → pq_V g n p Bd → Bd + d ≤ 900 →
    (∃ σ' g' n' p', (∀ (K : Int32 → rc_S → Option (Nat × Int32 × rc_S)) (fu : Nat), f_X8_commands_47 rf x K (fu + d + 1) (Int32.ofNat i) σ = K (Int32.ofNat cc) σ') ∧ (∀ a, (a < x + 2 ∨ x + 29 ≤ a) → σ' a = σ a) ∧ pq_R σ' (x + 2) g' n' p' ∧ pq_V g' n' p' (Bd + d) ∧ ∀ τ, τ (x + 308 + 1) = g → τ (x + 308) 20 = Int32.ofNat cc → (∀ c, c < cc → pc_s σ τ x c) → ∃ τ', (∀ (K : Int32 → rc_S → Option (Int32 × rc_S)) (fu : Nat), f_X9_commands_108 rf (x + 308) K (fu + d + 1) (Int32.ofNat i) τ = K (Int32.ofNat cc) τ') ∧ τ' (x + 308 + 1) = g' ∧ (∀ a, a ≠ x + 308 → a ≠ x + 308 + 1 → τ' a = τ a) ∧ ∀ j, j ≠ 17 → τ' (x + 308) j = τ (x + 308) j) ∨
    (∃ σ' code det i', code ≠ 0 ∧ (∀ (K : Int32 → rc_S → Option (Nat × Int32 × rc_S)) (fu : Nat), f_X8_commands_47 rf x K (fu + d + 1) (Int32.ofNat i) σ = rc_bd (f_X2_aside rf (rf x 5) σ') fun w_7 σ_7 => rc_bd (f_X1_copy rf (rf x 1) w_7 σ_7) fun _ σ_8 => rc_lt (rc_up σ_8 (rf x 2) 2 (Int32.ofNat i')) fun σ_9 => some (1, (0 : Int32), σ_9)) ∧ (∀ a, (a < x + 2 ∨ x + 30 ≤ a) → σ' a = σ a) ∧ σ' (x + 29) 0 = code ∧ σ' (x + 29) 1 = det ∧ ∀ τ, τ (x + 308 + 1) = g → τ (x + 308) 20 = Int32.ofNat cc → (∀ c, c < cc → pc_s σ τ x c) → ∃ τ', (∀ (K : Int32 → rc_S → Option (Int32 × rc_S)) (fu : Nat), f_X9_commands_108 rf (x + 308) K (fu + d + 1) (Int32.ofNat i) τ = f_X9_commands_131 rf (x + 308) (Int32.ofNat i') code (fun v3_23 σ_24 => rc_lt (rc_up σ_24 (x + 308) 13 code) fun σ_25 => rc_lt (rc_up σ_25 (x + 308) 14 (σ_25 (x + 308) 16)) fun σ_26 => rc_lt (rc_up σ_26 (x + 308) 15 (Int32.ofNat i')) fun σ_27 => rc_bd (f_X9_fails rf (x + 308) (2 : Int32) σ_27) fun w_28 σ_28 => some (w_28, σ_28)) rc_fu (0 : Int32) τ') ∧ τ' (x + 308) 16 = det ∧ (∀ a, a ≠ x + 308 → a ≠ x + 308 + 1 → τ' a = τ a) ∧ ∀ j, j ≠ 16 → j ≠ 17 → τ' (x + 308) j = τ (x + 308) j) := by
  intro d
  induction d with
  | zero =>
    intro i σ g n p Bd hi h4 hk hR hV hB
    have e : i = cc := by omega
    subst e
    refine Or.inl ⟨σ, g, n, p, fun K fu => ?_, fun _ _ => rfl, hR, hV, fun τ hτ h20 hs => ⟨τ, fun K fu => ?_, hτ, fun _ _ _ => rfl, fun _ _ => rfl⟩⟩
    · rw [f_X8_commands_47, pq_x6 hX, h4, if_pos (Int32.le_refl _)]
    · rw [f_X9_commands_108, h20, if_pos (Int32.le_refl _)]
  | succ d ih =>
    intro i σ g n p Bd hi h4 hk hR hV hB
    have hni : ¬ Int32.ofNat cc ≤ Int32.ofNat i := fun q => by have := (pq_le (by omega) (by omega)).mp q; omega
    obtain ⟨A, B, hop, eA, eB⟩ := pc_do hX (c := i) (σ := σ) (by omega) (hk i (by omega))
    have hcl : ∀ (K : Int32 → rc_S → Option (Nat × Int32 × rc_S)) (fu : Nat), f_X8_commands_47 rf x K (fu + (d + 1) + 1) (Int32.ofNat i) σ = rc_bd (A σ) fun w_5 σ_5 => if w_5 = (-1 : Int32) then rc_bd (f_X2_aside rf (rf x 5) σ_5) fun w_7 σ_7 => rc_bd (f_X1_copy rf (rf x 1) w_7 σ_7) fun _ σ_8 => rc_lt (rc_up σ_8 (rf x 2) 2 (Int32.ofNat i)) fun σ_9 => some (1, (0 : Int32), σ_9) else rc_lt (Int32.ofNat i + 1) fun v1_6 => f_X8_commands_47 rf x K (fu + d + 1) v1_6 σ_5 := fun K fu => by
      rw [show fu + (d + 1) + 1 = (fu + d + 1) + 1 from rfl, f_X8_commands_47, pq_x6 hX, h4, if_neg hni, eA]
    have hrl : ∀ (τ : rc_S), τ (x + 308) 20 = Int32.ofNat cc → pc_s σ τ x i → ∀ (K : Int32 → rc_S → Option (Int32 × rc_S)) (fu : Nat), f_X9_commands_108 rf (x + 308) K (fu + (d + 1) + 1) (Int32.ofNat i) τ = rc_bd (B τ) fun w_17 σ_17 => if w_17 = 0 then rc_lt (Int32.ofNat i + 1) fun v1_29 => f_X9_commands_108 rf (x + 308) K (fu + d + 1) v1_29 σ_17 else f_X9_commands_131 rf (x + 308) (Int32.ofNat i) w_17 (fun v3_23 σ_24 => rc_lt (rc_up σ_24 (x + 308) 13 w_17) fun σ_25 => rc_lt (rc_up σ_25 (x + 308) 14 (σ_25 (x + 308) 16)) fun σ_26 => rc_lt (rc_up σ_26 (x + 308) 15 (Int32.ofNat i)) fun σ_27 => rc_bd (f_X9_fails rf (x + 308) (2 : Int32) σ_27) fun w_28 σ_28 => some (w_28, σ_28)) rc_fu (0 : Int32) σ_17 := fun τ h20 hs K fu => by
      rw [show fu + (d + 1) + 1 = (fu + d + 1) + 1 from rfl, f_X9_commands_108, h20, if_neg hni, eB τ hs]
    rcases hop σ n p Bd g hR hV (by omega) with ⟨code, det, hc0, hA, hBB⟩ | ⟨v, s1, g1, n1, p1, hv, hA, hf, hR1, hV1, hBB⟩
    · refine Or.inr ⟨rc_up (rc_up (rc_up σ (x + 29) 0 code) (x + 29) 1 det) (x + 29) 2 0, code, det, i, hc0, fun K fu => ?_, fun a ha => ?_, ?_, ?_, fun τ hτ h20 hs => ⟨rc_up τ (x + 308) 16 det, fun K fu => ?_, by rw [pq_upE, pq_udE], fun a a1 a2 => pq_upN a1, fun j j1 j2 => by rw [pq_upE, pq_udN j1]⟩⟩
      · rw [hcl, hA, pq_bd, if_pos rfl]
      · simp (disch := omega) only [pq_upN]
      · rw [pq_upE, pq_udN (by decide), pq_upE, pq_udN (by decide), pq_upE, pq_udE]
      · rw [pq_upE, pq_udN (by decide), pq_upE, pq_udE]
      · rw [hrl τ h20 (hs i (by omega)), hBB τ hτ, pq_bd, if_neg hc0]
    · have k304 : s1 (x + 304) = σ (x + 304) := hf _ (by omega)
      have k305 : s1 (x + 305) = σ (x + 305) := hf _ (by omega)
      have k302 : s1 (x + 302) = σ (x + 302) := hf _ (by omega)
      have ps : ∀ (τ τ1 : rc_S), τ1 (x + 308 + 6) = τ (x + 308 + 6) → ∀ c, pc_s σ τ x c → pc_s s1 τ1 x c := fun τ τ1 ht c h => by
        unfold pc_s at h ⊢
        rw [k304, k305, ht]; exact h
      rcases ih (i + 1) s1 g1 n1 p1 (Bd + 1) (by omega) (by rw [k302]; exact h4) (fun c hc => by rw [k304]; exact hk c hc) hR1 hV1 (by omega) with ⟨s2, g2, n2, p2, f1, f2, f3, f4, f5⟩ | ⟨s2, code, det, i', f0, f1, f2, f3, f4, f5⟩
      · refine Or.inl ⟨s2, g2, n2, p2, fun K fu => ?_, fun a ha => by rw [f2 a ha, hf a ha], f3, by rw [show Bd + (d + 1) = Bd + 1 + d by omega]; exact f4, fun τ hτ h20 hs => ?_⟩
        · rw [hcl, hA, pq_bd, if_neg hv, rc_lt, pq_s, f1]
        · obtain ⟨t1, b1, b2, b3, b4, b5⟩ := hBB τ hτ
          obtain ⟨t2, d1, d2, d3, d4⟩ := f5 t1 b2 (by rw [b5 _ (by decide)]; exact h20) (fun c hc => ps τ t1 (b4 _ (by omega) (by omega)) c (hs c hc))
          refine ⟨t2, fun K fu => ?_, d2, fun a a1 a2 => by rw [d3 a a1 a2, b4 a a1 a2], fun j hj => by rw [d4 j hj, b5 j hj]⟩
          rw [hrl τ h20 (hs i (by omega)), b1, pq_bd, if_pos rfl, rc_lt, pq_s, d1]
      · refine Or.inr ⟨s2, code, det, i', f0, fun K fu => ?_, fun a ha => by rw [f2 a ha, hf a (by omega)], f3, f4, fun τ hτ h20 hs => ?_⟩
        · rw [hcl, hA, pq_bd, if_neg hv, rc_lt, pq_s, f1]
        · obtain ⟨t1, b1, b2, b3, b4, b5⟩ := hBB τ hτ
          obtain ⟨t2, d1, d2, d3, d4⟩ := f5 t1 b2 (by rw [b5 _ (by decide)]; exact h20) (fun c hc => ps τ t1 (b4 _ (by omega) (by omega)) c (hs c hc))
          refine ⟨t2, fun K fu => ?_, d2, fun a a1 a2 => by rw [d3 a a1 a2, b4 a a1 a2], fun j j1 j2 => by rw [d4 j j1 j2, b5 j j2]⟩
          rw [hrl τ h20 (hs i (by omega)), b1, pq_bd, if_pos rfl, rc_lt, pq_s, d1]
theorem pc_any (v : Int32) : ∃ k : Nat, v = Int32.ofNat k := ⟨v.toBitVec.toNat, by rw [Int32.ofNat_bitVecToNat]; rfl⟩
theorem pc_nm1 {v : Int32} (h : vp_nar .char v = v) : v ≠ -1 := fun q => by subst q; exact absurd h (by decide)
/-- where the reference begins to read -/
def pc_t7 (u : rc_S) (m : Nat) (l : Int32) : rc_S := rc_up (rc_up (rc_up (rc_up (rc_up (rc_up u m 18 0) m 19 l) m 10 0) m 20 0) m 21 0) m 12 (-1)
theorem pc_t7r {u : rc_S} {m Ln : Nat} {T : Nat → Int32} (hT : ∀ k, k < Ln → u (m + 5) k = T k) : pc_r (pc_t7 u m (Int32.ofNat Ln)) m 0 0 0 Ln T := by
  unfold pc_t7
  refine ⟨?_, ?_, ?_, ?_, fun k hk => ?_⟩
  · simp [pq_upE, upd]
  · simp [pq_upE, upd]
  · simp [pq_upE, upd]
  · simp [pq_upE, upd]
  · simp (disch := omega) only [pq_upN]; exact hT k hk
theorem pc_t7N {u : rc_S} {m : Nat} {l : Int32} {a : Nat} (h : a ≠ m) : pc_t7 u m l a = u a := by unfold pc_t7; simp only [pq_upN h]
theorem pc_t7m {u : rc_S} {m : Nat} {l : Int32} {j : Nat} (h : j ≠ 18 ∧ j ≠ 19 ∧ j ≠ 10 ∧ j ≠ 20 ∧ j ≠ 21 ∧ j ≠ 12) : pc_t7 u m l m j = u m j := by
  unfold pc_t7
  simp only [pq_upE, pq_udN h.1, pq_udN h.2.1, pq_udN h.2.2.1, pq_udN h.2.2.2.1, pq_udN h.2.2.2.2.1, pq_udN h.2.2.2.2.2]
theorem pc_t7o {u : rc_S} {m : Nat} {l : Int32} : pc_t7 u m l m 10 = 0 ∧ pc_t7 u m l m 12 = -1 := by
  unfold pc_t7
  constructor <;> simp [pq_upE, upd]
end PQG
