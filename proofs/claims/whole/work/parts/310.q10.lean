theorem pq_Rg {σ : rc_S} {c n p : Nat} {g g' : Nat → Int32} (h : pq_R σ c g n p) (hn : n ≤ 8) (hp : p ≤ 4) (e : ∀ k, k < 107 → g' k = g k) : pq_R σ c g' n p := by
  obtain ⟨⟨h0, h1, h2, h3, h4, h5, h6, h7, h8, h9, h10⟩, hm, hb, hq, hr⟩ := h
  refine ⟨⟨by rw [e _ (by omega)]; exact h0, by rw [e _ (by omega)]; exact h1, by rw [e _ (by omega)]; exact h2, by rw [e _ (by omega)]; exact h3, by rw [e _ (by omega)]; exact h4, by rw [e _ (by omega)]; exact h5, by rw [e _ (by omega)]; exact h6, by rw [e _ (by omega)]; exact h7, by rw [e _ (by omega)]; exact h8, by rw [e _ (by omega)]; exact h9, by rw [e _ (by omega)]; exact h10⟩, fun r hr' => ?_, fun b hb' => ?_, fun j hj => ?_, fun q hq' => ?_⟩
  · rw [e _ (by omega)]; exact hm r hr'
  · rw [e _ (by omega), e _ (by omega), e _ (by omega), e _ (by omega), e _ (by omega), e _ (by omega)]; exact hb b hb'
  · rw [e _ (by omega), e _ (by omega)]; exact hq j hj
  · rw [e _ (by omega), e _ (by omega), e _ (by omega)]; exact hr q hq'
theorem pq_Vg {n p N : Nat} {g g' : Nat → Int32} (h : pq_V g n p N) (e : ∀ k, k < 107 → g' k = g k) : pq_V g' n p N := by
  obtain ⟨⟨h0, hn⟩, ⟨h1, hp⟩, h2, h3, h4, hm, hb, hq⟩ := h
  have e3 := e 3 (by omega)
  refine ⟨⟨by rw [e _ (by omega)]; exact h0, hn⟩, ⟨by rw [e _ (by omega)]; exact h1, hp⟩, by rw [e _ (by omega)]; exact h2, by rw [e3]; exact h3, by rw [e _ (by omega)]; exact h4, fun r hr => ?_, fun b hb' => ?_, fun j hj => ?_⟩
  · rw [e _ (by omega)]; exact hm r hr
  · rw [e3, e (15 + 6 * b) (by omega), e (16 + 6 * b) (by omega), e (17 + 6 * b) (by omega), e (18 + 6 * b) (by omega), e (19 + 6 * b) (by omega), e (20 + 6 * b) (by omega)]; exact hb b hb'
  · rw [e _ (by omega), e _ (by omega)]; exact hq j hj
section PQD
variable {rf : rc_F} {c1 c2 m : Nat}
theorem qc_b {σ : rc_S} {a b : Nat} (h : b ≠ a) : ∃ s, f_X0_copy rf a b σ = some ((), s) ∧ (∀ q, q ≠ a → s q = σ q) ∧ ∀ k, k < 6 → s a k = σ b k := by
  refine ⟨rc_up (rc_up (rc_up (rc_up (rc_up (rc_up σ a 0 (σ b 0)) a 1 (σ b 1)) a 2 (σ b 2)) a 3 (σ b 3)) a 4 (σ b 4)) a 5 (σ b 5), ?_, fun q hq => by simp only [pq_upN hq], fun k hk => ?_⟩
  · simp only [f_X0_copy, f_X0_copyVintage, rc_lt, pq_bd, pq_upN h]
  · match k, hk with
    | 0, _ => simp [pq_upE, upd]
    | 1, _ => simp [pq_upE, upd]
    | 2, _ => simp [pq_upE, upd]
    | 3, _ => simp [pq_upE, upd]
    | 4, _ => simp [pq_upE, upd]
    | 5, _ => simp [pq_upE, upd]
    | k + 6, hk => omega
theorem qc_q {σ : rc_S} {a b : Nat} (h : b ≠ a) : ∃ s, f_X4_copy rf a b σ = some ((), s) ∧ (∀ q, q ≠ a → s q = σ q) ∧ ∀ k, k < 3 → s a k = σ b k := by
  refine ⟨rc_up (rc_up (rc_up σ a 0 (σ b 0)) a 1 (σ b 1)) a 2 (σ b 2), ?_, fun q hq => by simp only [pq_upN hq], fun k hk => ?_⟩
  · simp only [f_X4_copy, rc_lt, pq_bd, pq_upN h]
  · match k, hk with
    | 0, _ => simp [pq_upE, upd]
    | 1, _ => simp [pq_upE, upd]
    | 2, _ => simp [pq_upE, upd]
    | k + 3, hk => omega

theorem qc_bs (hK1 : pq_K rf c1) (hK2 : pq_K rf c2) (hd : c1 + 27 ≤ c2 ∨ c2 + 27 ≤ c1) : ∀ (d fu i : Nat) (σ : rc_S), i + d = 8 → ∃ s, (∀ K : Int32 → rc_S → Option (Unit × rc_S), f_X1_copy_27 rf c1 c2 K (fu + d + 1) (Int32.ofNat i) σ = K (Int32.ofNat 8) s) ∧ (∀ a, (a < c1 + 7 ∨ c1 + 15 ≤ a) → s a = σ a) ∧ (∀ b, i ≤ b → b < 8 → ∀ k, k < 6 → s (c1 + 7 + b) k = σ (c2 + 7 + b) k) ∧ ∀ b, b < i → s (c1 + 7 + b) = σ (c1 + 7 + b) := by
  intro d
  induction d with
  | zero =>
    intro fu i σ h
    have hi : i = 8 := by omega
    subst hi
    refine ⟨σ, fun K => ?_, fun _ _ => rfl, fun b b1 b2 => by omega, fun _ _ => rfl⟩
    rw [f_X1_copy_27, if_pos (by decide)]
  | succ d ih =>
    intro fu i σ h
    have hni : (8 ≤ i) = False := by simp; omega
    obtain ⟨s1, e1, f1, g1⟩ := qc_b (rf := rf) (σ := σ) (a := c1 + 7 + i) (b := c2 + 7 + i) (by omega)
    obtain ⟨s2, e2, f2, g2, h2⟩ := ih fu (i + 1) s1 (by omega)
    refine ⟨s2, fun K => ?_, fun a ha => by rw [f2 a ha, f1 a (by omega)], fun b b1 b2 k hk => ?_, fun b hb => by rw [h2 b (by omega), f1 _ (by omega)]⟩
    · rw [show fu + (d + 1) + 1 = (fu + d + 1) + 1 from rfl, f_X1_copy_27]
      simp (disch := omega) only [pq_le8, hni, if_false, pq_in, pq_ck, pq_cl, pq_k1 hK1, pq_k1 hK2, pq_kb hK1, pq_kb hK2, e1, pq_bd, rc_lt, pq_s]
      exact e2 K
    · by_cases hb : b = i
      · subst hb
        rw [h2 b (by omega)]; exact g1 k hk
      · rw [g2 b (by omega) b2 k hk, f1 _ (by omega)]
theorem qc_qs (hK1 : pq_K rf c1) (hK2 : pq_K rf c2) (hd : c1 + 27 ≤ c2 ∨ c2 + 27 ≤ c1) : ∀ (d fu i : Nat) (σ : rc_S), i + d = 12 → ∃ s, (∀ K : Int32 → rc_S → Option (Unit × rc_S), f_X1_copy_56 rf c1 c2 K (fu + d + 1) (Int32.ofNat i) σ = K (Int32.ofNat 12) s) ∧ (∀ a, (a < c1 + 15 ∨ c1 + 27 ≤ a) → s a = σ a) ∧ (∀ b, i ≤ b → b < 12 → ∀ k, k < 3 → s (c1 + 15 + b) k = σ (c2 + 15 + b) k) ∧ ∀ b, b < i → s (c1 + 15 + b) = σ (c1 + 15 + b) := by
  intro d
  induction d with
  | zero =>
    intro fu i σ h
    have hi : i = 12 := by omega
    subst hi
    refine ⟨σ, fun K => ?_, fun _ _ => rfl, fun b b1 b2 => by omega, fun _ _ => rfl⟩
    rw [f_X1_copy_56, if_pos (by decide)]
  | succ d ih =>
    intro fu i σ h
    have hni : (12 ≤ i) = False := by simp; omega
    obtain ⟨s1, e1, f1, g1⟩ := qc_q (rf := rf) (σ := σ) (a := c1 + 15 + i) (b := c2 + 15 + i) (by omega)
    obtain ⟨s2, e2, f2, g2, h2⟩ := ih fu (i + 1) s1 (by omega)
    refine ⟨s2, fun K => ?_, fun a ha => by rw [f2 a ha, f1 a (by omega)], fun b b1 b2 k hk => ?_, fun b hb => by rw [h2 b (by omega), f1 _ (by omega)]⟩
    · rw [show fu + (d + 1) + 1 = (fu + d + 1) + 1 from rfl, f_X1_copy_56]
      simp (disch := omega) only [pq_le12, hni, if_false, pq_in, pq_ck, pq_cl, pq_k4 hK1, pq_k4 hK2, pq_kr hK1, pq_kr hK2, e1, pq_bd, rc_lt, pq_s]
      exact e2 K
    · by_cases hb : b = i
      · subst hb
        rw [h2 b (by omega)]; exact g1 k hk
      · rw [g2 b (by omega) b2 k hk, f1 _ (by omega)]
theorem qc_m (hK1 : pq_K rf c1) (hK2 : pq_K rf c2) (hd : c1 + 27 ≤ c2 ∨ c2 + 27 ≤ c1) : ∀ (d fu i : Nat) (σ : rc_S), i + d = 4 → ∃ s, (∀ K : Int32 → rc_S → Option (Unit × rc_S), f_X1_copy_2 rf c1 c2 K (fu + d + 1) (Int32.ofNat i) σ = K (Int32.ofNat 4) s) ∧ (∀ a, a ≠ c1 + 1 → s a = σ a) ∧ (∀ k, i ≤ k → k < 4 → s (c1 + 1) (k) = σ (c2 + 1) (k)) ∧ ∀ k, (∀ j, i ≤ j → j < 4 → k ≠ j) → s (c1 + 1) k = σ (c1 + 1) k := by
  intro d
  induction d with
  | zero =>
    intro fu i σ h 
    have hi : i = 4 := by omega
    subst hi
    refine ⟨σ, fun K => ?_, fun _ _ => rfl, fun b b1 b2 => by omega, fun _ _ => rfl⟩
    rw [f_X1_copy_2, if_pos (by decide)]
  | succ d ih =>
    intro fu i σ h 
    have hni : (4 ≤ i) = False := by simp; omega
    obtain ⟨s2, e2, f2, g2, h2⟩ := ih fu (i + 1) (rc_up σ (c1 + 1) (i) (σ (c2 + 1) (i))) (by omega) 
    refine ⟨s2, fun K => ?_, fun a ha => by rw [f2 a ha, pq_upN ha], fun k k1 k2 => ?_, fun k hk => ?_⟩
    · rw [show fu + (d + 1) + 1 = (fu + d + 1) + 1 from rfl, f_X1_copy_2]
      simp (disch := omega) only [pq_le4, hni, if_false, pq_in, pq_ck, pq_cl, pq_k0 hK1, pq_k0 hK2, rc_lt, pq_s]
      exact e2 K
    · by_cases hb : k = i
      · subst hb
        rw [h2 _ (fun j j1 j2 => by omega), pq_upE, pq_udE]
      · rw [g2 k (by omega) k2]
        rw [pq_upN (by omega)]
    · rw [h2 k (fun j j1 j2 => hk j (by omega) j2), pq_upE, pq_udN (hk i (Nat.le_refl i) (by omega))]
theorem q9_rem (hM : pq_M rf m) : ∀ (d fu i : Nat) (σ : rc_S), i + d = 107 → ∃ s, (∀ K : Int32 → rc_S → Option (Unit × rc_S), f_X9_remembers_7 rf m K (fu + d + 1) (Int32.ofNat i) σ = K (Int32.ofNat 107) s) ∧ (∀ a, a ≠ m + 2 → s a = σ a) ∧ (∀ k, i ≤ k → k < 107 → s (m + 2) (k) = σ (m + 1) (k)) ∧ ∀ k, (∀ j, i ≤ j → j < 107 → k ≠ j) → s (m + 2) k = σ (m + 2) k := by
  intro d
  induction d with
  | zero =>
    intro fu i σ h 
    have hi : i = 107 := by omega
    subst hi
    refine ⟨σ, fun K => ?_, fun _ _ => rfl, fun b b1 b2 => by omega, fun _ _ => rfl⟩
    rw [f_X9_remembers_7, if_pos (by decide)]
  | succ d ih =>
    intro fu i σ h 
    have hni : (107 ≤ i) = False := by simp; omega
    obtain ⟨s2, e2, f2, g2, h2⟩ := ih fu (i + 1) (rc_up σ (m + 2) (i) (σ (m + 1) (i))) (by omega) 
    refine ⟨s2, fun K => ?_, fun a ha => by rw [f2 a ha, pq_upN ha], fun k k1 k2 => ?_, fun k hk => ?_⟩
    · rw [show fu + (d + 1) + 1 = (fu + d + 1) + 1 from rfl, f_X9_remembers_7]
      simp (disch := omega) only [pq_le107, hni, if_false, pq_in, pq_ck, pq_cl, pq_m1 hM, pq_m2 hM, rc_lt, pq_s]
      exact e2 K
    · by_cases hb : k = i
      · subst hb
        rw [h2 _ (fun j j1 j2 => by omega), pq_upE, pq_udE]
      · rw [g2 k (by omega) k2]
        rw [pq_upN (by omega)]
    · rw [h2 k (fun j j1 j2 => hk j (by omega) j2), pq_upE, pq_udN (hk i (Nat.le_refl i) (by omega))]
theorem q9_sav (hM : pq_M rf m) : ∀ (d fu i : Nat) (σ : rc_S), i + d = 107 → ∃ s, (∀ K : Int32 → rc_S → Option (Int32 × rc_S), f_X9_save_7 rf m K (fu + d + 1) (Int32.ofNat i) σ = K (Int32.ofNat 107) s) ∧ (∀ a, a ≠ m + 3 → s a = σ a) ∧ (∀ k, i ≤ k → k < 107 → s (m + 3) (k) = σ (m + 1) (k)) ∧ ∀ k, (∀ j, i ≤ j → j < 107 → k ≠ j) → s (m + 3) k = σ (m + 3) k := by
  intro d
  induction d with
  | zero =>
    intro fu i σ h 
    have hi : i = 107 := by omega
    subst hi
    refine ⟨σ, fun K => ?_, fun _ _ => rfl, fun b b1 b2 => by omega, fun _ _ => rfl⟩
    rw [f_X9_save_7, if_pos (by decide)]
  | succ d ih =>
    intro fu i σ h 
    have hni : (107 ≤ i) = False := by simp; omega
    obtain ⟨s2, e2, f2, g2, h2⟩ := ih fu (i + 1) (rc_up σ (m + 3) (i) (σ (m + 1) (i))) (by omega) 
    refine ⟨s2, fun K => ?_, fun a ha => by rw [f2 a ha, pq_upN ha], fun k k1 k2 => ?_, fun k hk => ?_⟩
    · rw [show fu + (d + 1) + 1 = (fu + d + 1) + 1 from rfl, f_X9_save_7]
      simp (disch := omega) only [pq_le107, hni, if_false, pq_in, pq_ck, pq_cl, pq_m1 hM, pq_m3 hM, rc_lt, pq_s]
      exact e2 K
    · by_cases hb : k = i
      · subst hb
        rw [h2 _ (fun j j1 j2 => by omega), pq_upE, pq_udE]
      · rw [g2 k (by omega) k2]
        rw [pq_upN (by omega)]
    · rw [h2 k (fun j j1 j2 => hk j (by omega) j2), pq_upE, pq_udN (hk i (Nat.le_refl i) (by omega))]
theorem q9_res (hM : pq_M rf m) : ∀ (d fu i : Nat) (σ : rc_S), i + d = 107 → ∃ s, (∀ K : Int32 → rc_S → Option (Int32 × rc_S), f_X9_restore_20 rf m K (fu + d + 1) (Int32.ofNat i) σ = K (Int32.ofNat 107) s) ∧ (∀ a, a ≠ m + 1 → s a = σ a) ∧ (∀ k, i ≤ k → k < 107 → s (m + 1) (k) = σ (m + 3) (k)) ∧ ∀ k, (∀ j, i ≤ j → j < 107 → k ≠ j) → s (m + 1) k = σ (m + 1) k := by
  intro d
  induction d with
  | zero =>
    intro fu i σ h 
    have hi : i = 107 := by omega
    subst hi
    refine ⟨σ, fun K => ?_, fun _ _ => rfl, fun b b1 b2 => by omega, fun _ _ => rfl⟩
    rw [f_X9_restore_20, if_pos (by decide)]
  | succ d ih =>
    intro fu i σ h 
    have hni : (107 ≤ i) = False := by simp; omega
    obtain ⟨s2, e2, f2, g2, h2⟩ := ih fu (i + 1) (rc_up σ (m + 1) (i) (σ (m + 3) (i))) (by omega) 
    refine ⟨s2, fun K => ?_, fun a ha => by rw [f2 a ha, pq_upN ha], fun k k1 k2 => ?_, fun k hk => ?_⟩
    · rw [show fu + (d + 1) + 1 = (fu + d + 1) + 1 from rfl, f_X9_restore_20]
      simp (disch := omega) only [pq_le107, hni, if_false, pq_in, pq_ck, pq_cl, pq_m1 hM, pq_m3 hM, rc_lt, pq_s]
      exact e2 K
    · by_cases hb : k = i
      · subst hb
        rw [h2 _ (fun j j1 j2 => by omega), pq_upE, pq_udE]
      · rw [g2 k (by omega) k2]
        rw [pq_upN (by omega)]
    · rw [h2 k (fun j j1 j2 => hk j (by omega) j2), pq_upE, pq_udN (hk i (Nat.le_refl i) (by omega))]
theorem q9_rev (hM : pq_M rf m) (v1 v2 : Int32) : ∀ (d fu i : Nat) (σ : rc_S), i + d = 107 → ∃ s, (∀ K : Int32 → rc_S → Option (Int32 × rc_S), f_X9_commands_131 rf m v1 v2 K (fu + d + 1) (Int32.ofNat i) σ = K (Int32.ofNat 107) s) ∧ (∀ a, a ≠ m + 1 → s a = σ a) ∧ (∀ k, i ≤ k → k < 107 → s (m + 1) (k) = σ (m + 2) (k)) ∧ ∀ k, (∀ j, i ≤ j → j < 107 → k ≠ j) → s (m + 1) k = σ (m + 1) k := by
  intro d
  induction d with
  | zero =>
    intro fu i σ h 
    have hi : i = 107 := by omega
    subst hi
    refine ⟨σ, fun K => ?_, fun _ _ => rfl, fun b b1 b2 => by omega, fun _ _ => rfl⟩
    rw [f_X9_commands_131, if_pos (by decide)]
  | succ d ih =>
    intro fu i σ h 
    have hni : (107 ≤ i) = False := by simp; omega
    obtain ⟨s2, e2, f2, g2, h2⟩ := ih fu (i + 1) (rc_up σ (m + 1) (i) (σ (m + 2) (i))) (by omega) 
    refine ⟨s2, fun K => ?_, fun a ha => by rw [f2 a ha, pq_upN ha], fun k k1 k2 => ?_, fun k hk => ?_⟩
    · rw [show fu + (d + 1) + 1 = (fu + d + 1) + 1 from rfl, f_X9_commands_131]
      simp (disch := omega) only [pq_le107, hni, if_false, pq_in, pq_ck, pq_cl, pq_m1 hM, pq_m2 hM, rc_lt, pq_s]
      exact e2 K
    · by_cases hb : k = i
      · subst hb
        rw [h2 _ (fun j j1 j2 => by omega), pq_upE, pq_udE]
      · rw [g2 k (by omega) k2]
        rw [pq_upN (by omega)]
    · rw [h2 k (fun j j1 j2 => hk j (by omega) j2), pq_upE, pq_udN (hk i (Nat.le_refl i) (by omega))]
theorem q9_k7 {i : Nat} : Int32.ofNat i + 107 = Int32.ofNat (i + 107) := by rw [Int32.ofNat_add]; rfl
theorem q9_hx {K i : Nat} : (107 : Int32) * Int32.ofNat K + Int32.ofNat i = Int32.ofNat (107 * K + i) := by rw [Int32.ofNat_add, Int32.ofNat_mul]; rfl
theorem q9_k1 {K : Nat} (h : 0 < K) : Int32.ofNat K - 1 = Int32.ofNat (K - 1) := by rw [Int32.ofNat_sub _ _ h]; rfl
theorem q9_shi (hM : pq_M rf m) (v1 : Int32) : ∀ (d fu i : Nat) (σ : rc_S), i + d = 749 → ∃ s, (∀ K : Int32 → rc_S → Option (Int32 × rc_S), f_X9_changed_11 rf m v1 K (fu + d + 1) (Int32.ofNat i) σ = K (Int32.ofNat 749) s) ∧ (∀ a, a ≠ m + 4 → s a = σ a) ∧ (∀ k, i ≤ k → k < 749 → s (m + 4) (k) = σ (m + 4) (k + 107)) ∧ ∀ k, (∀ j, i ≤ j → j < 749 → k ≠ j) → s (m + 4) k = σ (m + 4) k := by
  intro d
  induction d with
  | zero =>
    intro fu i σ h 
    have hi : i = 749 := by omega
    subst hi
    refine ⟨σ, fun K => ?_, fun _ _ => rfl, fun b b1 b2 => by omega, fun _ _ => rfl⟩
    rw [f_X9_changed_11, if_pos (by decide)]
  | succ d ih =>
    intro fu i σ h 
    have hni : (749 ≤ i) = False := by simp; omega
    obtain ⟨s2, e2, f2, g2, h2⟩ := ih fu (i + 1) (rc_up σ (m + 4) (i) (σ (m + 4) (i + 107))) (by omega) 
    refine ⟨s2, fun K => ?_, fun a ha => by rw [f2 a ha, pq_upN ha], fun k k1 k2 => ?_, fun k hk => ?_⟩
    · rw [show fu + (d + 1) + 1 = (fu + d + 1) + 1 from rfl, f_X9_changed_11]
      simp (disch := omega) only [pq_le749, hni, if_false, q9_k7, pq_in, pq_ck, pq_cl, pq_m4 hM, rc_lt, pq_s]
      exact e2 K
    · by_cases hb : k = i
      · subst hb
        rw [h2 _ (fun j j1 j2 => by omega), pq_upE, pq_udE]
      · rw [g2 k (by omega) k2]
        rw [pq_upE, pq_udN (by omega)]
    · rw [h2 k (fun j j1 j2 => hk j (by omega) j2), pq_upE, pq_udN (hk i (Nat.le_refl i) (by omega))]
theorem q9_cha (hM : pq_M rf m) {Kn : Nat} (hk0 : 0 < Kn) (hk8 : Kn ≤ 8) (v1 : Int32) : ∀ (d fu i : Nat) (σ : rc_S), i + d = 107 → σ m 5 = Int32.ofNat Kn → ∃ s, (∀ K : Int32 → rc_S → Option (Int32 × rc_S), f_X9_changed_54 rf m v1 K (fu + d + 1) (Int32.ofNat i) σ = K (Int32.ofNat 107) s) ∧ (∀ a, a ≠ m + 4 → s a = σ a) ∧ (∀ k, i ≤ k → k < 107 → s (m + 4) (107 * (Kn - 1) + k) = σ (m + 2) (k)) ∧ ∀ k, (∀ j, i ≤ j → j < 107 → k ≠ 107 * (Kn - 1) + j) → s (m + 4) k = σ (m + 4) k := by
  intro d
  induction d with
  | zero =>
    intro fu i σ h hq
    have hi : i = 107 := by omega
    subst hi
    refine ⟨σ, fun K => ?_, fun _ _ => rfl, fun b b1 b2 => by omega, fun _ _ => rfl⟩
    rw [f_X9_changed_54, if_pos (by decide)]
  | succ d ih =>
    intro fu i σ h hq
    have hni : (107 ≤ i) = False := by simp; omega
    obtain ⟨s2, e2, f2, g2, h2⟩ := ih fu (i + 1) (rc_up σ (m + 4) (107 * (Kn - 1) + i) (σ (m + 2) (i))) (by omega) (by rw [pq_upN (by omega)]; exact hq)
    refine ⟨s2, fun K => ?_, fun a ha => by rw [f2 a ha, pq_upN ha], fun k k1 k2 => ?_, fun k hk => ?_⟩
    · rw [show fu + (d + 1) + 1 = (fu + d + 1) + 1 from rfl, f_X9_changed_54]
      simp (disch := omega) only [pq_le107, hni, if_false, hq, q9_k1 hk0, q9_hx, pq_in, pq_ck, pq_cl, pq_m4 hM, pq_m2 hM, rc_lt, pq_s]
      exact e2 K
    · by_cases hb : k = i
      · subst hb
        rw [h2 _ (fun j j1 j2 => by omega), pq_upE, pq_udE]
      · rw [g2 k (by omega) k2]
        rw [pq_upN (by omega)]
    · rw [h2 k (fun j j1 j2 => hk j (by omega) j2), pq_upE, pq_udN (hk i (Nat.le_refl i) (by omega))]
theorem q9_und (hM : pq_M rf m) {Kn : Nat} (hk8 : Kn < 8) : ∀ (d fu i : Nat) (σ : rc_S), i + d = 107 → σ m 5 = Int32.ofNat Kn → ∃ s, (∀ K : Int32 → rc_S → Option (Int32 × rc_S), f_X9_undo_30 rf m K (fu + d + 1) (Int32.ofNat i) σ = K (Int32.ofNat 107) s) ∧ (∀ a, a ≠ m + 1 → s a = σ a) ∧ (∀ k, i ≤ k → k < 107 → s (m + 1) (k) = σ (m + 4) (107 * Kn + k)) ∧ ∀ k, (∀ j, i ≤ j → j < 107 → k ≠ j) → s (m + 1) k = σ (m + 1) k := by
  intro d
  induction d with
  | zero =>
    intro fu i σ h hq
    have hi : i = 107 := by omega
    subst hi
    refine ⟨σ, fun K => ?_, fun _ _ => rfl, fun b b1 b2 => by omega, fun _ _ => rfl⟩
    rw [f_X9_undo_30, if_pos (by decide)]
  | succ d ih =>
    intro fu i σ h hq
    have hni : (107 ≤ i) = False := by simp; omega
    obtain ⟨s2, e2, f2, g2, h2⟩ := ih fu (i + 1) (rc_up σ (m + 1) (i) (σ (m + 4) (107 * Kn + i))) (by omega) (by rw [pq_upN (by omega)]; exact hq)
    refine ⟨s2, fun K => ?_, fun a ha => by rw [f2 a ha, pq_upN ha], fun k k1 k2 => ?_, fun k hk => ?_⟩
    · rw [show fu + (d + 1) + 1 = (fu + d + 1) + 1 from rfl, f_X9_undo_30]
      simp (disch := omega) only [pq_le107, hni, if_false, hq, q9_hx, pq_in, pq_ck, pq_cl, pq_m4 hM, pq_m1 hM, rc_lt, pq_s]
      exact e2 K
    · by_cases hb : k = i
      · subst hb
        rw [h2 _ (fun j j1 j2 => by omega), pq_upE, pq_udE]
      · rw [g2 k (by omega) k2]
        rw [pq_upN (by omega)]
    · rw [h2 k (fun j j1 j2 => hk j (by omega) j2), pq_upE, pq_udN (hk i (Nat.le_refl i) (by omega))]
theorem qc_p (hK1 : pq_K rf c1) (hK2 : pq_K rf c2) (hd : c1 + 27 ≤ c2 ∨ c2 + 27 ≤ c1) : ∀ (d fu i : Nat) (σ : rc_S), i + d = 4 → ∃ s, (∀ K : Int32 → rc_S → Option (Unit × rc_S), f_X3_copy_2 rf (c1 + 3) (c2 + 3) K (fu + d + 1) (Int32.ofNat i) σ = K (Int32.ofNat 4) s) ∧ (∀ a, a ≠ c1 + 4 → a ≠ c1 + 5 → s a = σ a) ∧ (∀ k, i ≤ k → k < 4 → s (c1 + 4) k = σ (c2 + 4) k ∧ s (c1 + 5) k = vp_nar .boolean (σ (c2 + 5) k)) ∧ ∀ k, k < i → s (c1 + 4) k = σ (c1 + 4) k ∧ s (c1 + 5) k = σ (c1 + 5) k := by
  intro d
  induction d with
  | zero =>
    intro fu i σ h
    have hi : i = 4 := by omega
    subst hi
    refine ⟨σ, fun K => ?_, fun _ _ _ => rfl, fun b b1 b2 => by omega, fun _ _ => ⟨rfl, rfl⟩⟩
    rw [f_X3_copy_2, if_pos (by decide)]
  | succ d ih =>
    intro fu i σ h
    have hni : (4 ≤ i) = False := by simp; omega
    obtain ⟨s2, e2, f2, g2, h2⟩ := ih fu (i + 1) (rc_up (rc_up σ (c1 + 4) i (σ (c2 + 4) i)) (c1 + 5) i (vp_nar .boolean (σ (c2 + 5) i))) (by omega)
    refine ⟨s2, fun K => ?_, fun a ha hb => by rw [f2 a ha hb, pq_upN hb, pq_upN ha], fun k k1 k2 => ?_, fun k hk => ?_⟩
    · rw [show fu + (d + 1) + 1 = (fu + d + 1) + 1 from rfl, f_X3_copy_2]
      simp (disch := omega) only [pq_le4, hni, if_false, pq_in, pq_ck, pq_cl, pq_kp hK1, pq_kp hK2, pq_ks hK1, pq_ks hK2, rc_lt, pq_s]
      rw [show rc_up σ (c1 + 4) i (σ (c2 + 4) i) (c2 + 5) = σ (c2 + 5) from pq_upN (by omega)]
      exact e2 K
    · by_cases hb : k = i
      · subst hb
        have q := h2 k (by omega)
        rw [q.1, q.2, pq_upN (by omega), pq_upE, pq_udE, pq_upE, pq_udE]
        exact ⟨rfl, rfl⟩
      · have q := g2 k (by omega) k2
        rw [q.1, q.2, pq_upN (by omega), pq_upN (by omega), pq_upN (by omega), pq_upN (by omega)]
        exact ⟨rfl, rfl⟩
    · have q := h2 k (by omega)
      rw [q.1, q.2, pq_upN (by omega), pq_upE, pq_udN (by omega), pq_upE, pq_udN (by omega), pq_upN (by omega)]
      exact ⟨rfl, rfl⟩
theorem pq_nb01 {v : Int32} (h : v = 0 ∨ v = 1) : vp_nar .boolean v = v := by rcases h with h | h <;> subst h <;> decide
/-- a cellar's copy -/
theorem qc (hK1 : pq_K rf c1) (hK2 : pq_K rf c2) (hd : c1 + 27 ≤ c2 ∨ c2 + 27 ≤ c1) (σ : rc_S) : ∃ s, f_X1_copy rf c1 c2 σ = some ((), s) ∧ (∀ a, (a < c1 ∨ c1 + 27 ≤ a) → s a = σ a) ∧ ∀ g n p N, pq_R σ c2 g n p → pq_V g n p N → pq_R s c1 g n p := by
  obtain ⟨s1, e1, f1, g1, -⟩ := qc_m hK1 hK2 hd 4 (99999 - 4) 0 σ (by omega)
  obtain ⟨s2, e2, f2, g2, -⟩ := qc_bs hK1 hK2 hd 8 (99999 - 8) 0 s1 (by omega)
  obtain ⟨s3, e3, f3, g3, -⟩ := qc_qs hK1 hK2 hd 12 (99999 - 12) 0 s2 (by omega)
  obtain ⟨s4, e4, f4, g4, -⟩ := qc_p hK1 hK2 hd 4 (99999 - 4) 0 s3 (by omega)
  rw [← pq_fu _ (by omega), show Int32.ofNat 0 = (0 : Int32) from rfl] at e1 e2 e3 e4
  have h2 : s4 c2 = σ c2 := by rw [f4 _ (by omega) (by omega), f3 _ (by omega), f2 _ (by omega), f1 _ (by omega)]
  have h23 : s4 (c2 + 3) = σ (c2 + 3) := by rw [f4 _ (by omega) (by omega), f3 _ (by omega), f2 _ (by omega), f1 _ (by omega)]
  have n1 : c2 ≠ c1 := by omega
  have n2 : c2 ≠ c1 + 3 := by omega
  have n3 : c1 ≠ c1 + 3 := by omega
  have k1 : ∀ a, a ≠ c1 → a ≠ c1 + 3 → (rc_up (rc_up (rc_up (rc_up (rc_up (rc_up (rc_up (rc_up (rc_up (rc_up (rc_up s4 (c1 + 3) 2 (σ (c2 + 3) 2)) c1 2 (σ c2 2)) c1 5 (σ c2 5)) c1 6 (σ c2 6)) c1 7 (σ c2 7)) c1 8 (σ c2 8)) c1 9 (σ c2 9)) c1 10 (σ c2 10)) c1 11 (σ c2 11)) c1 12 (σ c2 12)) c1 13 (σ c2 13)) a = s4 a := fun a a1 a2 => by simp only [pq_upN a1, pq_upN a2]
  refine ⟨rc_up (rc_up (rc_up (rc_up (rc_up (rc_up (rc_up (rc_up (rc_up (rc_up (rc_up s4 (c1 + 3) 2 (σ (c2 + 3) 2)) c1 2 (σ c2 2)) c1 5 (σ c2 5)) c1 6 (σ c2 6)) c1 7 (σ c2 7)) c1 8 (σ c2 8)) c1 9 (σ c2 9)) c1 10 (σ c2 10)) c1 11 (σ c2 11)) c1 12 (σ c2 12)) c1 13 (σ c2 13), ?_, fun a ha => by rw [k1 a (by omega) (by omega), f4 a (by omega) (by omega), f3 a (by omega), f2 a (by omega), f1 a (by omega)], fun g n p N hR hV => ?_⟩
  · rw [f_X1_copy, e1, e2, e3, pq_k3 hK1, pq_k3 hK2, f_X3_copy, e4, rc_lt, h23, pq_bd]
    simp only [f_X1_copyCounts, rc_lt, pq_bd, pq_upN n1, pq_upN n2, h2]
  · have h8 := pq_vn hV
    have h4 := pq_vp hV
    refine ⟨⟨?_, ?_, ?_, ?_, ?_, ?_, ?_, ?_, ?_, ?_, ?_⟩, fun r hr => ?_, fun b hb => ?_, fun j hj => ?_, fun q hq => ?_⟩
    · simp [pq_upE, upd, pq_c0 hR]
    · simp only [pq_upN (show c1 + 3 ≠ c1 by omega), pq_upE, pq_udE]; exact pq_c1 hR
    · simp [pq_upE, upd, pq_c2 hR]
    · simp [pq_upE, upd, pq_c3 hR]
    · simp [pq_upE, upd, pq_c4 hR]
    · simp [pq_upE, upd, pq_c5 hR]
    · simp [pq_upE, upd, pq_c6 hR]
    · simp [pq_upE, upd, pq_c7 hR]
    · simp [pq_upE, upd, pq_c8 hR]
    · simp [pq_upE, upd, pq_c9 hR]
    · simp [pq_upE, upd, pq_c10 hR]
    · rw [k1 _ (by omega) (by omega), f4 _ (by omega) (by omega), f3 _ (by omega), f2 _ (by omega), g1 r (by omega) hr]; exact pq_cm hR hr
    · have hbk : ∀ k, k < 6 → s4 (c1 + 7 + b) k = σ (c2 + 7 + b) k := fun k hk => by
        rw [f4 _ (by omega) (by omega), f3 _ (by omega), g2 b (by omega) (by omega) k hk, f1 _ (by omega)]
      rw [k1 _ (by omega) (by omega), hbk 0 (by omega), hbk 1 (by omega), hbk 2 (by omega), hbk 3 (by omega), hbk 5 (by omega), hbk 4 (by omega)]
      exact ⟨pq_b0 hR hb, pq_b1 hR hb, pq_b2 hR hb, pq_b3 hR hb, pq_b4 hR hb, pq_b5 hR hb⟩
    · have q := g4 j (by omega) (by omega)
      rw [k1 _ (by omega) (by omega), k1 _ (by omega) (by omega), q.1, q.2, f3 _ (by omega), f2 _ (by omega), f1 _ (by omega), f3 _ (by omega), f2 _ (by omega), f1 _ (by omega), pq_pp hR hj, pq_ps hR hj]
      exact ⟨rfl, pq_nb01 (pq_vps hV hj)⟩
    · have hqk : ∀ k, k < 3 → s4 (c1 + 15 + q) k = σ (c2 + 15 + q) k := fun k hk => by
        rw [f4 _ (by omega) (by omega), g3 q (by omega) (by omega) k hk, f2 _ (by omega), f1 _ (by omega)]
      rw [k1 _ (by omega) (by omega), hqk 0 (by omega), hqk 1 (by omega), hqk 2 (by omega)]
      exact ⟨pq_q0 hR hq, pq_q1 hR hq, pq_q2 hR hq⟩
end PQD
