/-! reading commands from the text, both sides -/
def pc_c (σ : rc_S) (x a cc nc Ln : Nat) (T : Nat → Int32) : Prop := σ (x + 302) 5 = Int32.ofNat a ∧ σ (x + 302) 4 = Int32.ofNat cc ∧ σ (x + 302) 6 = Int32.ofNat nc ∧ σ (x + 302) 1 = Int32.ofNat Ln ∧ ∀ k, k < Ln → σ (x + 303) k = T k
def pc_r (τ : rc_S) (m a cc : Nat) (wr : Int32) (Ln : Nat) (T : Nat → Int32) : Prop := τ m 18 = Int32.ofNat a ∧ τ m 20 = Int32.ofNat cc ∧ τ m 21 = wr ∧ τ m 19 = Int32.ofNat Ln ∧ ∀ k, k < Ln → τ (m + 5) k = T k
def pc_D (T : Nat → Int32) (Ln a : Nat) : Prop := a < Ln ∧ ¬ T a < 48 ∧ ¬ 57 < T a
/-- what reading may change: the class, the reference -/
def pc_F (σ σ' : rc_S) (x lo : Nat) : Prop := (∀ q, q ≠ x + 302 → q ≠ x + 305 → σ' q = σ q) ∧ (∀ j, j ≠ 5 → j ≠ 6 → σ' (x + 302) j = σ (x + 302) j) ∧ ∀ k, (k < lo ∨ lo + 3 ≤ k) → σ' (x + 305) k = σ (x + 305) k
def pc_G (τ τ' : rc_S) (m lo : Nat) : Prop := (∀ q, q ≠ m → q ≠ m + 6 → τ' q = τ q) ∧ (∀ j, j ≠ 18 → j ≠ 21 → τ' m j = τ m j) ∧ ∀ k, (k < lo ∨ lo + 3 ≤ k) → τ' (m + 6) k = τ (m + 6) k
section PQP
variable {rf : rc_F} {x m a cc nc Ln : Nat} {σ τ : rc_S} {T : Nat → Int32}
theorem pc_Fr {lo : Nat} : pc_F σ σ x lo := ⟨fun _ _ _ => rfl, fun _ _ _ => rfl, fun _ _ => rfl⟩
theorem pc_Gr {lo : Nat} : pc_G τ τ m lo := ⟨fun _ _ _ => rfl, fun _ _ _ => rfl, fun _ _ => rfl⟩
theorem pc_Ft {σ1 σ2 : rc_S} {lo : Nat} (h : pc_F σ σ1 x lo) (h2 : pc_F σ1 σ2 x lo) : pc_F σ σ2 x lo := ⟨fun q a b => (h2.1 q a b).trans (h.1 q a b), fun q a b => (h2.2.1 q a b).trans (h.2.1 q a b), fun q a => (h2.2.2 q a).trans (h.2.2 q a)⟩
theorem pc_Gt {τ1 τ2 : rc_S} {lo : Nat} (h : pc_G τ τ1 m lo) (h2 : pc_G τ1 τ2 m lo) : pc_G τ τ2 m lo := ⟨fun q a b => (h2.1 q a b).trans (h.1 q a b), fun q a b => (h2.2.1 q a b).trans (h.2.1 q a b), fun q a => (h2.2.2 q a).trans (h.2.2 q a)⟩
theorem pc_nx {cc nc : Nat} : Int32.ofNat cc * 3 + Int32.ofNat nc = Int32.ofNat (3 * cc + nc) := by rw [Int32.ofNat_add, Int32.ofNat_mul, Int32.mul_comm]; rfl
theorem pc_tx {cc k : Nat} : (4 : Int32) * Int32.ofNat cc + Int32.ofNat k = Int32.ofNat (4 * cc + k) := by rw [Int32.ofNat_add, Int32.ofNat_mul]; rfl
theorem pc_t0 {cc : Nat} : (4 : Int32) * Int32.ofNat cc = Int32.ofNat (4 * cc) := by rw [Int32.ofNat_mul]; rfl
theorem pc_sg (hX : pq_X rf x) (h : pc_c σ x a cc nc Ln T) (hL : Ln ≤ 60) (ha : a ≤ Ln) (c : Int32) : f_X6_readSign rf (x + 302) c σ = if a < Ln ∧ T a = c then some (1, rc_up σ (x + 302) 5 (Int32.ofNat (a + 1))) else some (0, σ) := by
  obtain ⟨h5, h4, h6, h1, hT⟩ := h
  rw [f_X6_readSign, h1, h5]
  by_cases hc : a < Ln
  · rw [if_neg (show ¬ Int32.ofNat Ln ≤ Int32.ofNat a from fun q => by have := (pq_le (by omega) (by omega)).mp q; omega), pq_in (by omega) (by decide), pq_ck, pq_t0 hX, pq_cl (by omega), hT a hc, pq_s, rc_lt]
    by_cases h2 : T a = c
    · rw [if_pos h2, if_pos ⟨hc, h2⟩]
    · rw [if_neg h2, if_neg (fun q => h2 q.2)]
  · rw [if_pos (show Int32.ofNat Ln ≤ Int32.ofNat a from (pq_le (by omega) (by omega)).mpr (by omega)), if_neg (fun q => hc q.1)]
/-- one round of the class's loop over digits -/
theorem pc_n4 (hX : pq_X rf x) (h : pc_c σ x a cc nc Ln T) (hL : Ln ≤ 60) (ha : a ≤ Ln) {K : Int32 → Int32 → rc_S → Option (Int32 × rc_S)} {most v d : Int32} {fu : Nat} (hm : ¬ most ≤ d) : f_X6_readNumber_4 rf (x + 302) most K (fu + 1) v d σ = if a < Ln ∧ ¬ T a < 48 ∧ ¬ 57 < T a then f_X6_readNumber_4 rf (x + 302) most K fu (10 * v + (T a - 48)) (d + 1) (rc_up σ (x + 302) 5 (Int32.ofNat (a + 1))) else K v d σ := by
  obtain ⟨h5, h4, h6, h1, hT⟩ := h
  rw [f_X6_readNumber_4, if_neg hm, h1, h5]
  by_cases hc : a < Ln
  · rw [if_neg (show ¬ Int32.ofNat Ln ≤ Int32.ofNat a from fun q => by have := (pq_le (by omega) (by omega)).mp q; omega), pq_in (by omega) (by decide), pq_ck, pq_ck, pq_ck, pq_t0 hX, pq_cl (by omega), hT a hc, pq_s]
    simp only [rc_lt]
    by_cases h2 : T a < 48
    · rw [if_pos h2, if_neg (fun q => q.2.1 h2)]
    · by_cases h3 : 57 < T a
      · rw [if_neg h2, if_pos h3, if_neg (fun q => q.2.2 h3)]
      · rw [if_neg h2, if_neg h3, if_pos ⟨hc, h2, h3⟩]
  · rw [if_pos (show Int32.ofNat Ln ≤ Int32.ofNat a from (pq_le (by omega) (by omega)).mpr (by omega)), if_neg (fun q => hc q.1)]
theorem pc_cu (h : pc_c σ x a cc nc Ln T) : pc_c (rc_up σ (x + 302) 5 (Int32.ofNat (a + 1))) x (a + 1) cc nc Ln T := by
  obtain ⟨h5, h4, h6, h1, hT⟩ := h
  exact ⟨by rw [pq_upE, pq_udE], by rw [pq_upE, pq_udN (by decide)]; exact h4, by rw [pq_upE, pq_udN (by decide)]; exact h6, by rw [pq_upE, pq_udN (by decide)]; exact h1, fun k hk => by rw [pq_upN (by omega)]; exact hT k hk⟩
theorem pc_cF {lo : Nat} {v : Int32} : pc_F σ (rc_up σ (x + 302) 5 v) x lo := ⟨fun q a b => pq_upN a, fun j a b => by rw [pq_upE, pq_udN a], fun k _ => by rw [pq_upN (by omega)]⟩
/-- the class reads a number: none, or it stands in the list -/
theorem pc_nm (hX : pq_X rf x) (h : pc_c σ x a cc nc Ln T) (hL : Ln ≤ 60) (ha : a ≤ Ln) (hn : nc < 3) (hc : cc < 60) (most : Int32) (h12 : most = 1 ∨ most = 2) : (¬ pc_D T Ln a ∧ f_X6_readNumber rf (x + 302) most σ = some (0, σ)) ∨ (pc_D T Ln a ∧ ∃ σ' a' v, f_X6_readNumber rf (x + 302) most σ = some (1, σ') ∧ pc_c σ' x a' cc (nc + 1) Ln T ∧ a < a' ∧ a' ≤ Ln ∧ pc_F σ σ' x (3 * cc) ∧ σ' (x + 305) (3 * cc + nc) = v ∧ (∀ k, k ≠ 3 * cc + nc → σ' (x + 305) k = σ (x + 305) k) ∧ ((a' = a + 1 ∧ v = T a - 48 ∧ (most = 1 ∨ ¬ pc_D T Ln (a + 1))) ∨ (a' = a + 2 ∧ most = 2 ∧ pc_D T Ln (a + 1) ∧ v = 10 * (T a - 48) + (T (a + 1) - 48)))) := by
  have hm0 : ¬ most ≤ 0 := by rcases h12 with e | e <;> subst e <;> decide
  -- what stands at the end
  have fin : ∀ (s : rc_S) (a' : Nat) (v d : Int32), d ≠ 0 → pc_c s x a' cc nc Ln T → (if d = 0 then some ((0 : Int32), s) else rc_ck (rc_in ((s (x + 302) 4) * (3 : Int32) + (s (x + 302) 6)) 180) <| rc_lt (rc_up s (rf (x + 302) 3) ((s (x + 302) 4) * (3 : Int32) + (s (x + 302) 6)).toNatClampNeg v) fun σ_15 => rc_lt (rc_up σ_15 (x + 302) 6 ((σ_15 (x + 302) 6) + (1 : Int32))) fun σ_16 => some ((1 : Int32), σ_16)) = some (1, rc_up (rc_up s (x + 305) (3 * cc + nc) v) (x + 302) 6 (Int32.ofNat (nc + 1))) := by
    intro s a' v d hd hs
    obtain ⟨h5, h4, h6, h1, hT⟩ := hs
    rw [if_neg hd, h4, h6, pc_nx, pq_in (by omega) (by decide), pq_ck, pq_cl (by omega), pq_t3 hX, rc_lt, rc_lt, pq_upN (by omega), h6, pq_s]
  have fc : ∀ (s : rc_S) (a' : Nat) (v : Int32), pc_c s x a' cc nc Ln T → pc_c (rc_up (rc_up s (x + 305) (3 * cc + nc) v) (x + 302) 6 (Int32.ofNat (nc + 1))) x a' cc (nc + 1) Ln T := by
    intro s a' v hs
    obtain ⟨h5, h4, h6, h1, hT⟩ := hs
    exact ⟨by rw [pq_upE, pq_udN (by decide), pq_upN (by omega)]; exact h5, by rw [pq_upE, pq_udN (by decide), pq_upN (by omega)]; exact h4, by rw [pq_upE, pq_udE], by rw [pq_upE, pq_udN (by decide), pq_upN (by omega)]; exact h1, fun k hk => by rw [pq_upN (by omega), pq_upN (by omega)]; exact hT k hk⟩
  have ff : ∀ (s : rc_S) (v : Int32), pc_F s (rc_up (rc_up s (x + 305) (3 * cc + nc) v) (x + 302) 6 (Int32.ofNat (nc + 1))) x (3 * cc) := fun s v => ⟨fun q q1 q2 => by rw [pq_upN q1, pq_upN q2], fun j j1 j2 => by rw [pq_upE, pq_udN j2, pq_upN (by omega)], fun k hk => by rw [pq_upN (by omega), pq_upE, pq_udN (by omega)]⟩
  rw [f_X6_readNumber, show rc_fu = 99997 + 1 + 1 + 1 from rfl, pc_n4 hX h hL ha hm0]
  by_cases hD : a < Ln ∧ ¬ T a < 48 ∧ ¬ 57 < T a
  · refine Or.inr ⟨hD, ?_⟩
    rw [if_pos hD, show (10 : Int32) * 0 + (T a - 48) = T a - 48 from by rw [Int32.mul_zero, Int32.zero_add], show (0 : Int32) + 1 = 1 from rfl]
    have h1 := pc_cu h
    rcases h12 with e | e
    · subst e
      rw [f_X6_readNumber_4, if_pos (by decide), fin _ (a + 1) (T a - 48) 1 (by decide) h1]
      exact ⟨_, a + 1, T a - 48, rfl, fc _ _ _ h1, by omega, by omega, pc_Ft pc_cF (ff _ _), by rw [pq_upN (by omega), pq_upE, pq_udE], fun k hk => by rw [pq_upN (by omega), pq_upE, pq_udN hk, pq_upN (by omega)], Or.inl ⟨rfl, rfl, Or.inl rfl⟩⟩
    · subst e
      rw [pc_n4 hX h1 hL (by omega) (by decide)]
      by_cases hD2 : a + 1 < Ln ∧ ¬ T (a + 1) < 48 ∧ ¬ 57 < T (a + 1)
      · have h2 := pc_cu h1
        rw [if_pos hD2, show (1 : Int32) + 1 = 2 from rfl, f_X6_readNumber_4, if_pos (by decide), fin _ (a + 2) _ 2 (by decide) h2]
        exact ⟨_, a + 2, 10 * (T a - 48) + (T (a + 1) - 48), rfl, fc _ _ _ h2, by omega, by omega, pc_Ft (pc_Ft pc_cF pc_cF) (ff _ _), by rw [pq_upN (by omega), pq_upE, pq_udE], fun k hk => by rw [pq_upN (by omega), pq_upE, pq_udN hk, pq_upN (by omega), pq_upN (by omega)], Or.inr ⟨rfl, rfl, hD2, rfl⟩⟩
      · rw [if_neg hD2, fin _ (a + 1) (T a - 48) 1 (by decide) h1]
        exact ⟨_, a + 1, T a - 48, rfl, fc _ _ _ h1, by omega, by omega, pc_Ft pc_cF (ff _ _), by rw [pq_upN (by omega), pq_upE, pq_udE], fun k hk => by rw [pq_upN (by omega), pq_upE, pq_udN hk, pq_upN (by omega)], Or.inl ⟨rfl, rfl, Or.inr hD2⟩⟩
  · refine Or.inl ⟨hD, ?_⟩
    rw [if_neg hD, if_pos rfl]
/-! the reference -/
theorem pc_he (hM : pq_M rf m) {wr : Int32} (h : pc_r τ m a cc wr Ln T) (hL : Ln ≤ 60) (ha : a ≤ Ln) : f_X9_here rf m τ = some (if a < Ln then T a else -1, τ) := by
  obtain ⟨h1, h2, h3, h4, hT⟩ := h
  rw [f_X9_here, h4, h1]
  by_cases hc : a < Ln
  · rw [if_neg (show ¬ Int32.ofNat Ln ≤ Int32.ofNat a from fun q => by have := (pq_le (by omega) (by omega)).mp q; omega), if_pos hc, pq_in (by omega) (by decide), pq_ck, pq_m7 hM, pq_cl (by omega), hT a hc]
  · rw [if_pos (show Int32.ofNat Ln ≤ Int32.ofNat a from (pq_le (by omega) (by omega)).mpr (by omega)), if_neg hc]
theorem pc_ru (h : pc_r τ m a cc 0 Ln T) (a' : Nat) (wr : Int32) : pc_r (rc_up (rc_up τ m 21 wr) m 18 (Int32.ofNat a')) m a' cc wr Ln T := by
  obtain ⟨h1, h2, h3, h4, hT⟩ := h
  exact ⟨by rw [pq_upE, pq_udE], by rw [pq_upE, pq_udN (by decide), pq_upE, pq_udN (by decide)]; exact h2, by rw [pq_upE, pq_udN (by decide), pq_upE, pq_udE], by rw [pq_upE, pq_udN (by decide), pq_upE, pq_udN (by decide)]; exact h4, fun k hk => by rw [pq_upN (by omega), pq_upN (by omega)]; exact hT k hk⟩
theorem pc_rG {lo : Nat} {v wr : Int32} : pc_G τ (rc_up (rc_up τ m 21 wr) m 18 v) m lo := ⟨fun q q1 q2 => by rw [pq_upN q1, pq_upN q1], fun j j1 j2 => by rw [pq_upE, pq_udN j1, pq_upE, pq_udN j2], fun k _ => by rw [pq_upN (by omega), pq_upN (by omega)]⟩
/-- a sign: read, or wrong -/
theorem pc_sr (hM : pq_M rf m) (h : pc_r τ m a cc 0 Ln T) (hL : Ln ≤ 60) (ha : a ≤ Ln) {c : Int32} (hc : c ≠ -1) : ∃ τ', f_X9_sign rf m c τ = some ((), τ') ∧ pc_G τ τ' m (4 * cc + 1) ∧ (∀ k, τ' (m + 6) k = τ (m + 6) k) ∧ ((a < Ln ∧ T a = c ∧ pc_r τ' m (a + 1) cc 0 Ln T) ∨ (¬ (a < Ln ∧ T a = c) ∧ pc_r τ' m a cc 1 Ln T)) := by
  have h21 := h.2.2.1
  have h18 := h.1
  by_cases hr : a < Ln ∧ T a = c
  · refine ⟨_, ?_, pc_rG, fun k => by rw [pq_upN (by omega), pq_upN (by omega)], Or.inl ⟨hr.1, hr.2, pc_ru h (a + 1) 0⟩⟩
    rw [f_X9_sign, if_pos h21, pc_he hM h hL ha, pq_bd, if_pos hr.1, if_pos hr.2, rc_lt, pq_upE, pq_udE, if_pos rfl, rc_lt, pq_udN (by decide), h18, pq_s]
  · refine ⟨_, ?_, pc_rG, fun k => by rw [pq_upN (by omega), pq_upN (by omega)], Or.inr ⟨hr, pc_ru h a 1⟩⟩
    have hne : ¬ (if a < Ln then T a else -1) = c := by
      by_cases h1 : a < Ln
      · rw [if_pos h1]; exact fun q => hr ⟨h1, q⟩
      · rw [if_neg h1]; exact fun q => hc q.symm
    rw [f_X9_sign, if_pos h21, pc_he hM h hL ha, pq_bd, if_neg hne, rc_lt, pq_upE, pq_udE, if_neg (by decide), rc_lt, pq_udN (by decide), h18, Int32.add_zero]
/-- nothing more is read where it is wrong -/
theorem pc_sw (h : pc_r τ m a cc 1 Ln T) {c : Int32} : ∃ τ', f_X9_sign rf m c τ = some ((), τ') ∧ pc_G τ τ' m (4 * cc + 1) ∧ pc_r τ' m a cc 1 Ln T := by
  obtain ⟨h1, h2, h3, h4, hT⟩ := h
  refine ⟨rc_up (rc_up τ m 21 1) m 18 (Int32.ofNat a + 0), ?_, pc_rG, ?_⟩
  · rw [f_X9_sign, if_neg (by rw [h3]; decide), rc_lt, pq_upE, pq_udE, if_neg (by decide), rc_lt, pq_udN (by decide), h1]
  · exact ⟨by rw [pq_upE, pq_udE, Int32.add_zero], by rw [pq_upE, pq_udN (by decide), pq_upE, pq_udN (by decide)]; exact h2, by rw [pq_upE, pq_udN (by decide), pq_upE, pq_udE], by rw [pq_upE, pq_udN (by decide), pq_upE, pq_udN (by decide)]; exact h4, fun k hk => by rw [pq_upN (by omega), pq_upN (by omega)]; exact hT k hk⟩
end PQP
