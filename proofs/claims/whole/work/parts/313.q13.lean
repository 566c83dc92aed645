section PQOP3
variable {rf : rc_F} {x c m : Nat} {σ : rc_S} {g : Nat → Int32} {n p N b : Nat}
/-! a year goes by -/
def pq_mg (f : Int32 → Int32) : Nat → Nat → (Nat → Int32) → Nat → Int32
  | _, 0, g => g
  | i, d + 1, g => pq_mg f (i + 1) d (upd g (11 + i) (f (g (11 + i))))
theorem pq_mgE {f : Int32 → Int32} : ∀ (d i : Nat) (g : Nat → Int32) (j : Nat), pq_mg f i d g j = if 11 + i ≤ j ∧ j < 11 + i + d then f (g j) else g j := by
  intro d
  induction d with
  | zero => intro i g j; rw [pq_mg, if_neg (by omega)]
  | succ d ih =>
    intro i g j
    rw [pq_mg, ih]
    by_cases e : j = 11 + i
    · subst e
      rw [if_neg (by omega), if_pos (by omega), pq_udE]
    · rw [pq_udN e]
      by_cases h : 11 + (i + 1) ≤ j ∧ j < 11 + (i + 1) + d
      · rw [if_pos h, if_pos (by omega)]
      · rw [if_neg h, if_neg (by omega)]
def pq_yr (v : Int32) : Int32 := if 9 < v + 1 then 9 else v + 1
theorem qo_y7 (hX : pq_X rf x) (v1 : Int32) {S : Nat → Prop} (hS : ∀ r, r < 4 → S (11 + r)) : ∀ (d fu i : Nat) (σ : rc_S) (g : Nat → Int32), i + d = 4 → pq_S σ (x + 2) g S → ∃ s, (∀ K : Int32 → rc_S → Option (Int32 × rc_S), f_X7_letYearGoBy_10 rf (x + 1) v1 K (fu + d + 1) (Int32.ofNat i) σ = K (Int32.ofNat 4) s) ∧ pq_S s (x + 2) (pq_mg pq_yr i d g) S ∧ ∀ a, a ≠ x + 2 + 1 → s a = σ a := by
  have hK := pq_xk hX
  intro d
  induction d with
  | zero =>
    intro fu i σ g h hs
    have hi : i = 4 := by omega
    subst hi
    exact ⟨σ, fun K => by rw [f_X7_letYearGoBy_10, if_pos (by decide)], hs, fun _ _ => rfl⟩
  | succ d ih =>
    intro fu i σ g h hs
    have hni : (4 ≤ i) = False := by simp; omega
    have hv : σ (x + 2 + 1) i = g (11 + i) := by
      have e := hs (11 + i) (by omega) (hS i (by omega))
      rw [(pq_adm (by omega)).1, (pq_adm (by omega)).2] at e; exact e
    obtain ⟨s, e1, e2, e3⟩ := ih fu (i + 1) (rc_up σ (x + 2 + 1) i (pq_yr (g (11 + i)))) (upd g (11 + i) (pq_yr (g (11 + i)))) (by omega) (fun j hj hS2 => pq_Sm hs (by omega) _ j hj (Or.inl hS2))
    refine ⟨s, fun K => ?_, e2, fun a ha => by rw [e3 a ha, pq_upN ha]⟩
    rw [show fu + (d + 1) + 1 = (fu + d + 1) + 1 from rfl, f_X7_letYearGoBy_10]
    simp (disch := omega) only [pq_le4, hni, if_false, pq_in, pq_ck, pq_cl, pq_w0 hX, pq_k0 hK, rc_lt, pq_s, hv]
    exact e1 K
theorem qo_y9 (hM : pq_M rf m) (v1 : Int32) : ∀ (d fu i : Nat) (σ : rc_S) (g : Nat → Int32), i + d = 4 → σ (m + 1) = g → (∀ r, r < 4 → i ≤ r → 0 ≤ (g (11 + r)).toInt ∧ (g (11 + r)).toInt ≤ 9) → ∃ s, (∀ K : Int32 → rc_S → Option (Int32 × rc_S), f_X9_passes_26 rf m v1 K (fu + d + 1) (Int32.ofNat i) σ = K (Int32.ofNat 4) s) ∧ s (m + 1) = pq_mg pq_yr i d g ∧ ∀ a, a ≠ m + 1 → s a = σ a := by
  intro d
  induction d with
  | zero =>
    intro fu i σ g h hs hr
    have hi : i = 4 := by omega
    subst hi
    exact ⟨σ, fun K => by rw [f_X9_passes_26, if_pos (by decide)], hs, fun _ _ => rfl⟩
  | succ d ih =>
    intro fu i σ g h hs hr
    have hni : (4 ≤ i) = False := by simp; omega
    obtain ⟨s, e1, e2, e3⟩ := ih fu (i + 1) (rc_up σ (m + 1) (11 + i) (pq_yr (g (11 + i)))) (upd g (11 + i) (pq_yr (g (11 + i)))) (by omega) (by rw [pq_upE, hs]) (fun r h1 h2 => by rw [pq_udN (by omega)]; exact hr r h1 (by omega))
    refine ⟨s, fun K => ?_, e2, fun a ha => by rw [e3 a ha, pq_upN ha]⟩
    obtain ⟨v, hv, ev⟩ := pq_natL (n := 9) (hr i (by omega) (by omega)).1 (hr i (by omega) (by omega)).2 (by decide)
    rw [show fu + (d + 1) + 1 = (fu + d + 1) + 1 from rfl, f_X9_passes_26]
    simp (disch := omega) only [pq_le4, hni, if_false, pq_mx, pq_in, pq_ck, pq_cl, pq_m1 hM, rc_lt, pq_s, hs]
    by_cases h9 : g (11 + i) = 9
    · rw [if_pos h9]
      rw [h9, show pq_yr 9 = 9 from by decide] at e1
      exact e1 K
    · rw [if_neg h9]
      have e4 : pq_yr (g (11 + i)) = g (11 + i) + 1 := by
        unfold pq_yr
        rw [if_neg]
        rw [ev, pq_s]
        intro q
        have q2 := (pq_lt (n := 9) (by decide) (by omega)).mp q
        exact h9 (by rw [ev, show v = 9 by omega]; rfl)
      rw [e4] at e1
      exact e1 K

theorem qo_year (hX : pq_X rf x) : pq_Op x (f_X7_letYearGoBy rf (x + 1)) (f_X9_passes rf (x + 308)) := by
  intro σ n p Bd g hR hV hB
  have hK := pq_xk hX
  have hM := pq_xm hX
  have h8 := pq_vn hV
  have h4 := pq_vp hV
  have hS := pq_RS hR h8 h4
  obtain ⟨s, e1, e2, e3⟩ := qo_y7 hX (g 2) (S := pq_lv n p) (fun r hr => Or.inl (by omega)) 4 (99999 - 4) 0 σ g (by omega) hS
  rw [← pq_fu 4 (by omega), show Int32.ofNat 0 = (0 : Int32) from rfl] at e1
  have sc : s (x + 2) = σ (x + 2) := e3 _ (by omega)
  have mN : ∀ j, (j < 11 ∨ 15 ≤ j) → pq_mg pq_yr 0 4 g j = g j := fun j hj => by rw [pq_mgE, if_neg (by omega)]
  have y3 := pq_v3 hV
  refine Or.inr ⟨g 2, rc_up (rc_up s (x + 2) 6 0) (x + 2) 7 (g 3 + 1), upd (upd (pq_mg pq_yr 0 4 g) 2 0) 3 (g 3 + 1), n, p, pq_nn (pq_v2 hV).1, ?_, fun a ha => by rw [pq_upN (by omega), pq_upN (by omega)]; exact e3 a (by omega), pq_SR (pq_Sc3 (pq_Sc2 e2 0) (g 3 + 1)) h8 h4 (fun j hj hl => Or.inl (Or.inl hl)), ?_, fun τ hτ => ?_⟩
  · rw [f_X7_letYearGoBy, pq_w0 hX, pq_c2 hR, rc_lt, e1]
    simp (disch := omega) only [rc_lt, pq_upE, pq_udN, sc, pq_c3 hR]
  · obtain ⟨Y, hY, eY⟩ := pq_natL (n := Bd) y3.1 y3.2 (by omega)
    have e5 : g 3 + 1 = Int32.ofNat (Y + 1) := by rw [eY, pq_s]
    refine pq_Vn hV ⟨by rw [pq_udN (by omega), pq_udN (by omega), mN _ (by omega)]; exact pq_v0 hV, h8⟩ ⟨by rw [pq_udN (by omega), pq_udN (by omega), mN _ (by omega)]; exact pq_v1 hV, h4⟩ (Or.inr (by rw [pq_udN (by omega), pq_udE]; decide)) (Or.inr (by rw [pq_udE, e5, eY, pq_ti (by omega), pq_ti (by omega)]; omega)) (Or.inl (by rw [pq_udN (by omega), pq_udN (by omega), mN _ (by omega)])) (fun r hr => ?_) (fun b hb => Or.inl ⟨hb, fun k hk => by rw [pq_udN (by omega), pq_udN (by omega), mN _ (by omega)]⟩) (fun j hj => Or.inl ⟨hj, by rw [pq_udN (by omega), pq_udN (by omega), mN _ (by omega)], by rw [pq_udN (by omega), pq_udN (by omega), mN _ (by omega)]⟩)
    refine Or.inr ?_
    rw [pq_udN (by omega), pq_udN (by omega), pq_mgE, if_pos (by omega)]
    obtain ⟨v, hv, ev⟩ := pq_natL (n := 9) (pq_vm hV hr).1 (pq_vm hV hr).2 (by decide)
    rw [ev]
    have : ∀ v, v < 10 → 0 ≤ (pq_yr (Int32.ofNat v)).toInt ∧ (pq_yr (Int32.ofNat v)).toInt ≤ 9 := by decide
    exact this v (by omega)
  · obtain ⟨t, u1, u2, u3⟩ := qo_y9 hM (g 2) 4 (99999 - 4) 0 (rc_up (rc_up τ (x + 308 + 1) 3 (g 3 + 1)) (x + 308 + 1) 2 0) (upd (upd g 3 (g 3 + 1)) 2 0) (by omega) (by rw [pq_upE, pq_upE, hτ]) (fun r hr _ => by rw [pq_udN (by omega), pq_udN (by omega)]; exact pq_vm hV hr)
    rw [← pq_fu 4 (by omega), show Int32.ofNat 0 = (0 : Int32) from rfl] at u1
    refine ⟨rc_up t (x + 308) 17 (g 2), ?_, pq_fin ?_ (fun a ha => by rw [u3 a ha, pq_upN ha, pq_upN ha])⟩
    · simp (disch := omega) only [f_X9_passes, pq_m1 hM, hτ, rc_lt, u1, q9_don, pq_bd]
    · rw [u2]
      funext j
      rw [pq_mgE]
      simp only [upd, pq_mgE]
      by_cases j3 : j = 3
      · subst j3; rfl
      · by_cases j2 : j = 2
        · subst j2; rfl
        · simp only [j3, j2, if_false]
theorem q9_pv {v : Int32} (h : v = 0 ∨ v = 1) : vp_nar .boolean v = v := pq_nb01 h
theorem qo_l7 (hK : pq_K rf c) (hp : p ≤ 4) : ∀ (d fu i : Nat) (σ : rc_S), i + d + 1 = p → σ (c + 3) 2 = Int32.ofNat p → ∃ s, (∀ K : Int32 → rc_S → Option (Unit × rc_S), f_X3_remove_2 rf (c + 3) K (fu + d + 1) (Int32.ofNat i) σ = K (Int32.ofNat (p - 1)) s) ∧ (∀ a, a ≠ c + 4 → a ≠ c + 5 → s a = σ a) ∧ (∀ k, i ≤ k → k < p - 1 → s (c + 4) k = σ (c + 4) (k + 1) ∧ s (c + 5) k = vp_nar .boolean (σ (c + 5) (k + 1))) ∧ ∀ k, (k < i ∨ p - 1 ≤ k) → s (c + 4) k = σ (c + 4) k ∧ s (c + 5) k = σ (c + 5) k := by
  intro d
  induction d with
  | zero =>
    intro fu i σ h hc
    have hi : i = p - 1 := by omega
    subst hi
    refine ⟨σ, fun K => ?_, fun _ _ _ => rfl, fun k k1 k2 => by omega, fun _ _ => ⟨rfl, rfl⟩⟩
    rw [f_X3_remove_2, hc, pq_s, show p - 1 + 1 = p by omega, if_pos (Int32.le_refl _)]
  | succ d ih =>
    intro fu i σ h hc
    have hni : ¬ Int32.ofNat p ≤ Int32.ofNat (i + 1) := fun q => by have := (pq_le (by omega) (by omega)).mp q; omega
    obtain ⟨s, e1, e2, e3, e4⟩ := ih fu (i + 1) (rc_up (rc_up σ (c + 4) i (σ (c + 4) (i + 1))) (c + 5) i (vp_nar .boolean (σ (c + 5) (i + 1)))) (by omega) (by rw [pq_upN (by omega), pq_upN (by omega)]; exact hc)
    refine ⟨s, fun K => ?_, fun a a1 a2 => by rw [e2 a a1 a2, pq_upN a2, pq_upN a1], fun k k1 k2 => ?_, fun k hk => ?_⟩
    · rw [show fu + (d + 1) + 1 = (fu + d + 1) + 1 from rfl, f_X3_remove_2, hc, pq_s, if_neg hni]
      simp (disch := omega) only [pq_in, pq_ck, pq_cl, pq_kp hK, pq_ks hK, rc_lt, pq_upN]
      exact e1 K
    · by_cases e : k = i
      · subst e
        have q := e4 k (by omega)
        rw [q.1, q.2, pq_upN (by omega), pq_upE, pq_udE, pq_upE, pq_udE]
        exact ⟨rfl, rfl⟩
      · have q := e3 k (by omega) k2
        rw [q.1, q.2, pq_upN (by omega), pq_upE, pq_udN (by omega), pq_upE, pq_udN (by omega), pq_upN (by omega)]
        exact ⟨rfl, rfl⟩
    · have q := e4 k (by omega)
      rw [q.1, q.2, pq_upN (by omega), pq_upE, pq_udN (by omega), pq_upE, pq_udN (by omega), pq_upN (by omega)]
      exact ⟨rfl, rfl⟩
theorem q9_l1 {i : Nat} : (63 : Int32) + Int32.ofNat i = Int32.ofNat (63 + i) := by rw [Int32.ofNat_add]; rfl
theorem q9_l2 {i : Nat} : Int32.ofNat i + 2 = Int32.ofNat (i + 2) := by rw [Int32.ofNat_add]; rfl
theorem q9_l3 {i : Nat} : (2 : Int32) * Int32.ofNat i = Int32.ofNat (2 * i) := by rw [Int32.ofNat_mul]; rfl
theorem q9_l4 {i : Nat} : (15 : Int32) + Int32.ofNat i = Int32.ofNat (15 + i) := by rw [Int32.ofNat_add]; rfl
theorem q9_l5 {i : Nat} : Int32.ofNat i + 6 = Int32.ofNat (i + 6) := by rw [Int32.ofNat_add]; rfl
theorem q9_l6 {i : Nat} : (6 : Int32) * Int32.ofNat i = Int32.ofNat (6 * i) := by rw [Int32.ofNat_mul]; rfl
theorem q9_l7 {i j : Nat} : Int32.ofNat i + Int32.ofNat j = Int32.ofNat (i + j) := by rw [Int32.ofNat_add]
theorem qo_l9 (hM : pq_M rf m) {M : Nat} (hM8 : 63 + 2 * M + 2 ≤ 107) : ∀ (d fu i : Nat) (σ : rc_S), i + d = 2 * M → ∃ s, (∀ K : Int32 → rc_S → Option (Int32 × rc_S), f_X9_leaves_33 rf m (Int32.ofNat M) K (fu + d + 1) (Int32.ofNat i) σ = K (Int32.ofNat (2 * M)) s) ∧ (∀ a, a ≠ m + 1 → s a = σ a) ∧ ∀ k, s (m + 1) k = if 63 + i ≤ k ∧ k < 63 + 2 * M then σ (m + 1) (k + 2) else σ (m + 1) k := by
  intro d
  induction d with
  | zero =>
    intro fu i σ h
    have hi : i = 2 * M := by omega
    subst hi
    refine ⟨σ, fun K => ?_, fun _ _ => rfl, fun k => by rw [if_neg (by omega)]⟩
    rw [f_X9_leaves_33, q9_l3, if_pos (Int32.le_refl _)]
  | succ d ih =>
    intro fu i σ h
    have hni : ¬ Int32.ofNat (2 * M) ≤ Int32.ofNat i := fun q => by have := (pq_le (by omega) (by omega)).mp q; omega
    obtain ⟨s, e1, e2, e3⟩ := ih fu (i + 1) (rc_up σ (m + 1) (63 + i) (σ (m + 1) (63 + i + 2))) (by omega)
    refine ⟨s, fun K => ?_, fun a ha => by rw [e2 a ha, pq_upN ha], fun k => ?_⟩
    · rw [show fu + (d + 1) + 1 = (fu + d + 1) + 1 from rfl, f_X9_leaves_33, q9_l3, if_neg hni]
      simp (disch := omega) only [q9_l1, q9_l2, pq_in, pq_ck, pq_cl, pq_m1 hM, rc_lt, pq_s]
      exact e1 K
    · rw [e3 k, pq_upE]
      by_cases e : k = 63 + i
      · subst e
        rw [if_neg (by omega), if_pos (by omega), pq_udE]
      · by_cases h2 : 63 + (i + 1) ≤ k ∧ k < 63 + 2 * M
        · rw [if_pos h2, if_pos (by omega), pq_udN (by omega)]
        · rw [if_neg h2, if_neg (by omega), pq_udN e]
theorem qo_t9 (hM : pq_M rf m) {M : Nat} (hM8 : 15 + 6 * M + 6 ≤ 107) : ∀ (d fu i : Nat) (σ : rc_S), i + d = 6 * M → ∃ s, (∀ K : Int32 → rc_S → Option (Int32 × rc_S), f_X9_takes_55 rf m (Int32.ofNat M) K (fu + d + 1) (Int32.ofNat i) σ = K (Int32.ofNat (6 * M)) s) ∧ (∀ a, a ≠ m + 1 → s a = σ a) ∧ ∀ k, s (m + 1) k = if 15 + i ≤ k ∧ k < 15 + 6 * M then σ (m + 1) (k + 6) else σ (m + 1) k := by
  intro d
  induction d with
  | zero =>
    intro fu i σ h
    have hi : i = 6 * M := by omega
    subst hi
    refine ⟨σ, fun K => ?_, fun _ _ => rfl, fun k => by rw [if_neg (by omega)]⟩
    rw [f_X9_takes_55, q9_l6, if_pos (Int32.le_refl _)]
  | succ d ih =>
    intro fu i σ h
    have hni : ¬ Int32.ofNat (6 * M) ≤ Int32.ofNat i := fun q => by have := (pq_le (by omega) (by omega)).mp q; omega
    obtain ⟨s, e1, e2, e3⟩ := ih fu (i + 1) (rc_up σ (m + 1) (15 + i) (σ (m + 1) (15 + i + 6))) (by omega)
    refine ⟨s, fun K => ?_, fun a ha => by rw [e2 a ha, pq_upN ha], fun k => ?_⟩
    · rw [show fu + (d + 1) + 1 = (fu + d + 1) + 1 from rfl, f_X9_takes_55, q9_l6, if_neg hni]
      simp (disch := omega) only [q9_l4, q9_l5, pq_in, pq_ck, pq_cl, pq_m1 hM, rc_lt, pq_s]
      exact e1 K
    · rw [e3 k, pq_upE]
      by_cases e : k = 15 + i
      · subst e
        rw [if_neg (by omega), if_pos (by omega), pq_udE]
      · by_cases h2 : 15 + (i + 1) ≤ k ∧ k < 15 + 6 * M
        · rw [if_pos h2, if_pos (by omega), pq_udN (by omega)]
        · rw [if_neg h2, if_neg (by omega), pq_udN e]
def pq_lg (g : Nat → Int32) (p j : Nat) : Nat → Int32 := fun i => if i = 1 then Int32.ofNat (p - 1) else if i = 63 + 2 * (p - 1) ∨ i = 64 + 2 * (p - 1) then 0 else if 63 + 2 * j ≤ i ∧ i < 63 + 2 * (p - 1) then g (i + 2) else g i
theorem qo_leave (hX : pq_X rf x) {u : Int32} : pq_Op x (f_X7_letLeave rf (x + 1) u) (f_X9_leaves rf (x + 308) u) := by
  intro σ n p Bd g hR hV hB
  have hK := pq_xk hX
  have hM := pq_xm hX
  have h8 := pq_vn hV
  have h4 := pq_vp hV
  have hS := pq_RS hR h8 h4
  by_cases h1 : ¬ u < 0 ∧ u < g 1
  · obtain ⟨j, hj, rfl⟩ := pq_us hV h1
    obtain ⟨s, e1, e2, e3, e4⟩ := qo_l7 hK h4 (p - 1 - j) (99999 - (p - 1 - j)) j σ (by omega) (by rw [pq_c1 hR]; exact pq_v1 hV)
    rw [← pq_fu (p - 1 - j) (by omega)] at e1
    have gp : Int32.ofNat p - 1 = Int32.ofNat (p - 1) := q9_k1 (by omega)
    have gN : ∀ i, i ≠ 1 → (i < 63 + 2 * j ∨ 63 + 2 * p ≤ i) → pq_lg g p j i = g i := fun i i1 i2 => by unfold pq_lg; rw [if_neg i1, if_neg (by omega), if_neg (by omega)]
    have gO : ∀ k, k < p - 1 → pq_lg g p j (63 + 2 * k) = g (63 + 2 * (if j ≤ k then k + 1 else k)) ∧ pq_lg g p j (64 + 2 * k) = g (64 + 2 * (if j ≤ k then k + 1 else k)) := fun k hk => by
      refine ⟨?_, ?_⟩
      · unfold pq_lg
        rw [if_neg (by omega), if_neg (by omega)]
        by_cases h : j ≤ k
        · rw [if_pos (by omega), if_pos h, show 63 + 2 * k + 2 = 63 + 2 * (k + 1) by omega]
        · rw [if_neg (by omega), if_neg h]
      · unfold pq_lg
        rw [if_neg (by omega), if_neg (by omega)]
        by_cases h : j ≤ k
        · rw [if_pos (by omega), if_pos h, show 64 + 2 * k + 2 = 64 + 2 * (k + 1) by omega]
        · rw [if_neg (by omega), if_neg h]
    have h1p : Int32.ofNat j < Int32.ofNat p := by rw [← pq_v1 hV]; exact h1.2
    refine Or.inr ⟨Int32.ofNat (p - 1), rc_up s (x + 2 + 3) 2 (Int32.ofNat (p - 1)), pq_lg g p j, n, p - 1, pq_nnN (by omega), ?_, fun a ha => by rw [pq_upN (by omega)]; exact e2 a (by omega) (by omega), ?_, ?_, fun τ hτ => ?_⟩
    · simp (disch := omega) only [f_X7_letLeave, q3_has hR, q5_bec, pq_w0 hX, pq_w1 hX, pq_k0 hK, pq_k1 hK, pq_k3 hK, pq_k4 hK, pq_kp hK, pq_ks hK, pq_bd, pq_ck, pq_bx, rc_lt, pq_i10, pq_i01, not_false_eq_true, not_true_eq_false, and_self, and_true, true_and, and_false, false_and, or_true, true_or, or_false, false_or, if_true, if_false, ↓reduceIte, Decidable.not_not, ne_eq, Int32.reduceLE, Int32.reduceLT, pq_nes, eq_self, pq_c1 hR, h1, h1p, f_X3_remove, e1, e2, pq_v1 hV, gp, pq_upE, pq_udE]
    · have sc : ∀ a, a ≠ x + 2 + 4 → a ≠ x + 2 + 5 → a ≠ x + 2 + 3 → rc_up s (x + 2 + 3) 2 (Int32.ofNat (p - 1)) a = σ a := fun a a1 a2 a3 => by rw [pq_upN a3, e2 a a1 a2]
      refine ⟨⟨?_, ?_, ?_, ?_, ?_, ?_, ?_, ?_, ?_, ?_, ?_⟩, fun r hr => ?_, fun b hb => ?_, fun k hk => ?_, fun q hq => ?_⟩
      · rw [sc _ (by omega) (by omega) (by omega), gN _ (by omega) (by omega)]; exact pq_c0 hR
      · rw [pq_upE, pq_udE]; unfold pq_lg; rw [if_pos rfl]
      · rw [sc _ (by omega) (by omega) (by omega), gN _ (by omega) (by omega)]; exact pq_c2 hR
      · rw [sc _ (by omega) (by omega) (by omega), gN _ (by omega) (by omega)]; exact pq_c3 hR
      · rw [sc _ (by omega) (by omega) (by omega), gN _ (by omega) (by omega)]; exact pq_c4 hR
      · rw [sc _ (by omega) (by omega) (by omega), gN _ (by omega) (by omega)]; exact pq_c5 hR
      · rw [sc _ (by omega) (by omega) (by omega), gN _ (by omega) (by omega)]; exact pq_c6 hR
      · rw [sc _ (by omega) (by omega) (by omega), gN _ (by omega) (by omega)]; exact pq_c7 hR
      · rw [sc _ (by omega) (by omega) (by omega), gN _ (by omega) (by omega)]; exact pq_c8 hR
      · rw [sc _ (by omega) (by omega) (by omega), gN _ (by omega) (by omega)]; exact pq_c9 hR
      · rw [sc _ (by omega) (by omega) (by omega), gN _ (by omega) (by omega)]; exact pq_c10 hR
      · rw [sc _ (by omega) (by omega) (by omega), gN _ (by omega) (by omega)]; exact pq_cm hR hr
      · rw [sc _ (by omega) (by omega) (by omega), gN _ (by omega) (by omega), gN _ (by omega) (by omega), gN _ (by omega) (by omega), gN _ (by omega) (by omega), gN _ (by omega) (by omega), gN _ (by omega) (by omega)]
        exact ⟨pq_b0 hR hb, pq_b1 hR hb, pq_b2 hR hb, pq_b3 hR hb, pq_b4 hR hb, pq_b5 hR hb⟩
      · rw [pq_upN (by omega), pq_upN (by omega), (gO k hk).1, (gO k hk).2]
        by_cases h : j ≤ k
        · have q := e3 k h hk
          rw [q.1, q.2, if_pos h, pq_pp hR (by omega), pq_ps hR (by omega)]
          exact ⟨rfl, pq_nb01 (pq_vps hV (by omega))⟩
        · have q := e4 k (by omega)
          rw [q.1, q.2, if_neg h]
          exact ⟨pq_pp hR (by omega), pq_ps hR (by omega)⟩
      · rw [sc _ (by omega) (by omega) (by omega), gN _ (by omega) (by omega), gN _ (by omega) (by omega), gN _ (by omega) (by omega)]
        exact ⟨pq_q0 hR hq, pq_q1 hR hq, pq_q2 hR hq⟩
    · refine pq_Vn hV ⟨by rw [gN _ (by omega) (by omega)]; exact pq_v0 hV, h8⟩ ⟨by unfold pq_lg; rw [if_pos rfl], by omega⟩ (Or.inl (gN _ (by omega) (by omega))) (Or.inl (gN _ (by omega) (by omega))) (Or.inl (gN _ (by omega) (by omega))) (fun r hr => Or.inl (gN _ (by omega) (by omega))) (fun b hb => Or.inl ⟨hb, fun k hk => gN _ (by omega) (by omega)⟩) (fun k hk => Or.inr ?_)
      rw [(gO k hk).1, (gO k hk).2]
      have hk2 : (if j ≤ k then k + 1 else k) < p := by split <;> omega
      exact ⟨pq_vpp hV hk2, pq_vps hV hk2⟩
    · obtain ⟨t, u1, u2, u3⟩ := qo_l9 hM (M := p - 1) (by omega) (2 * (p - 1) - 2 * j) (99999 - (2 * (p - 1) - 2 * j)) (2 * j) τ (by omega)
      rw [← pq_fu _ (by omega)] at u1
      refine ⟨rc_up (rc_up (rc_up (rc_up t (x + 308 + 1) (63 + 2 * (p - 1)) 0) (x + 308 + 1) (64 + 2 * (p - 1)) 0) (x + 308 + 1) 1 (Int32.ofNat (p - 1))) (x + 308) 17 (Int32.ofNat (p - 1)), ?_, pq_fin ?_ (fun a ha => by rw [pq_upN ha, pq_upN ha, pq_upN ha, u2 a ha])⟩
      · simp (disch := omega) only [f_X9_leaves, q9_isS hM hτ hV, q9_ref, pq_m1 hM, hτ, pq_bd, pq_ck, pq_bx, rc_lt, pq_i10, pq_i01, not_false_eq_true, not_true_eq_false, and_self, and_true, true_and, and_false, false_and, or_true, true_or, or_false, false_or, if_true, if_false, ↓reduceIte, Decidable.not_not, ne_eq, Int32.reduceLE, Int32.reduceLT, pq_nes, eq_self, h1, h1p, pq_v1 hV, gp, q9_l3, u1]
        simp (disch := omega) only [q9_l1, pq_in, pq_ck, pq_cl, pq_m1 hM, rc_lt, pq_s, q9_don, pq_bd]
        rw [show 63 + 2 * (p - 1) + 1 = 64 + 2 * (p - 1) by omega]
      · simp only [pq_upE]
        funext i
        unfold pq_lg
        simp only [upd, u3, hτ]
        repeat' split
        all_goals first | rfl | omega
  · refine Or.inl ⟨4, g 1, by decide, ?_, fun τ hτ => ?_⟩
    · simp (disch := omega) only [f_X7_letLeave, q3_has hR, q5_bec, pq_w0 hX, pq_w1 hX, pq_k0 hK, pq_k1 hK, pq_k3 hK, pq_k4 hK, pq_kp hK, pq_ks hK, pq_bd, pq_ck, pq_bx, rc_lt, pq_i10, pq_i01, not_false_eq_true, not_true_eq_false, and_self, and_true, true_and, and_false, false_and, or_true, true_or, or_false, false_or, if_true, if_false, ↓reduceIte, Decidable.not_not, ne_eq, Int32.reduceLE, Int32.reduceLT, pq_nes, eq_self, pq_c1 hR, if_neg h1]
    · simp (disch := omega) only [f_X9_leaves, q9_isS hM hτ hV, q9_ref, pq_m1 hM, hτ, pq_bd, pq_ck, pq_bx, rc_lt, pq_i10, pq_i01, not_false_eq_true, not_true_eq_false, and_self, and_true, true_and, and_false, false_and, or_true, true_or, or_false, false_or, if_true, if_false, ↓reduceIte, Decidable.not_not, ne_eq, Int32.reduceLE, Int32.reduceLT, pq_nes, eq_self, if_neg h1]
theorem qo_t7 (hK : pq_K rf c) (hn : n ≤ 8) : ∀ (d fu i : Nat) (σ : rc_S), i + d + 1 = n → σ c 2 = Int32.ofNat n → ∃ s, (∀ K : Int32 → rc_S → Option (Unit × rc_S), f_X1_dropBarrel_2 rf c K (fu + d + 1) (Int32.ofNat i) σ = K (Int32.ofNat (n - 1)) s) ∧ (∀ a, (a < c + 7 + i ∨ c + 7 + (n - 1) ≤ a) → s a = σ a) ∧ ∀ k, i ≤ k → k < n - 1 → ∀ z, z < 6 → s (c + 7 + k) z = σ (c + 7 + (k + 1)) z := by
  intro d
  induction d with
  | zero =>
    intro fu i σ h hc
    have hi : i = n - 1 := by omega
    subst hi
    refine ⟨σ, fun K => ?_, fun _ _ => rfl, fun k k1 k2 => by omega⟩
    rw [f_X1_dropBarrel_2, hc, pq_s, show n - 1 + 1 = n by omega, if_pos (Int32.le_refl _)]
  | succ d ih =>
    intro fu i σ h hc
    have hni : ¬ Int32.ofNat n ≤ Int32.ofNat (i + 1) := fun q => by have := (pq_le (by omega) (by omega)).mp q; omega
    obtain ⟨s1, f1, f2, f3⟩ := qc_b (rf := rf) (σ := σ) (a := c + 7 + i) (b := c + 7 + (i + 1)) (by omega)
    obtain ⟨s, e1, e2, e3⟩ := ih fu (i + 1) s1 (by omega) (by rw [f2 _ (by omega)]; exact hc)
    refine ⟨s, fun K => ?_, fun a ha => by rw [e2 a (by omega), f2 a (by omega)], fun k k1 k2 z hz => ?_⟩
    · rw [show fu + (d + 1) + 1 = (fu + d + 1) + 1 from rfl, f_X1_dropBarrel_2, hc, pq_s, if_neg hni]
      simp (disch := omega) only [pq_in, pq_ck, pq_cl, pq_k1 hK, pq_kb hK, rc_lt, pq_bd, f1]
      exact e1 K
    · by_cases e : k = i
      · subst e
        rw [e2 _ (by omega), f3 z hz]
      · rw [e3 k (by omega) k2 z hz, f2 _ (by omega)]
theorem qo_t8 (hM : pq_M rf m) {M : Nat} (hM8 : M < 8) : ∀ (d fu i : Nat) (σ : rc_S), i + d = 6 → ∃ s, (∀ K : Int32 → rc_S → Option (Int32 × rc_S), f_X9_takes_92 rf m (Int32.ofNat M) K (fu + d + 1) (Int32.ofNat i) σ = K (Int32.ofNat 6) s) ∧ (∀ a, a ≠ m + 1 → s a = σ a) ∧ ∀ k, s (m + 1) k = if 15 + 6 * M + i ≤ k ∧ k < 15 + 6 * M + 6 then 0 else σ (m + 1) k := by
  intro d
  induction d with
  | zero =>
    intro fu i σ h
    have hi : i = 6 := by omega
    subst hi
    refine ⟨σ, fun K => ?_, fun _ _ => rfl, fun k => by rw [if_neg (by omega)]⟩
    rw [f_X9_takes_92, if_pos (by decide)]
  | succ d ih =>
    intro fu i σ h
    have hni : ¬ (6 : Int32) ≤ Int32.ofNat i := fun q => by have := (pq_le (n := 6) (by decide) (by omega)).mp q; omega
    obtain ⟨s, e1, e2, e3⟩ := ih fu (i + 1) (rc_up σ (m + 1) (15 + 6 * M + i) 0) (by omega)
    refine ⟨s, fun K => ?_, fun a ha => by rw [e2 a ha, pq_upN ha], fun k => ?_⟩
    · rw [show fu + (d + 1) + 1 = (fu + d + 1) + 1 from rfl, f_X9_takes_92, if_neg hni]
      simp (disch := omega) only [q9_ix, pq_in, pq_ck, pq_cl, pq_m1 hM, rc_lt, pq_s]
      exact e1 K
    · rw [e3 k, pq_upE]
      by_cases e : k = 15 + 6 * M + i
      · subst e
        rw [if_neg (by omega), if_pos (by omega), pq_udE]
      · by_cases h2 : 15 + 6 * M + (i + 1) ≤ k ∧ k < 15 + 6 * M + 6
        · rw [if_pos h2, if_pos (by omega)]
        · rw [if_neg h2, if_neg (by omega), pq_udN e]
def pq_tg (g : Nat → Int32) (n b : Nat) : Nat → Int32 := fun i => if i = 0 then Int32.ofNat (n - 1) else if 15 + 6 * (n - 1) ≤ i ∧ i < 15 + 6 * (n - 1) + 6 then 0 else if 15 + 6 * b ≤ i ∧ i < 15 + 6 * (n - 1) then g (i + 6) else g i
theorem qo_take (hX : pq_X rf x) {u : Int32} : pq_Op x (f_X7_removeBarrel rf (x + 1) u) (f_X9_takes rf (x + 308) u) := by
  intro σ n p Bd g hR hV hB
  have hK := pq_xk hX
  have hM := pq_xm hX
  have h8 := pq_vn hV
  have h4 := pq_vp hV
  have hS := pq_RS hR h8 h4
  by_cases h1 : ¬ u < 0 ∧ u < g 0
  · obtain ⟨b, hb, rfl⟩ := pq_ub hV h1
    have hb8 : b < 8 := by omega
    have hl := pq_vh hV hb
    have hz : (g (16 + 6 * b) ≤ 0) = (g (16 + 6 * b) = 0) := by
      have := pq_i0 (Int.le_trans hl.1 hl.2.1)
      apply propext; constructor <;> intro q <;> grind
    by_cases h2 : g (16 + 6 * b) = 0
    · obtain ⟨s, e1, e2, e3⟩ := qo_t7 hK h8 (n - 1 - b) (99999 - (n - 1 - b)) b σ (by omega) (by rw [pq_c0 hR]; exact pq_v0 hV)
      rw [← pq_fu (n - 1 - b) (by omega)] at e1
      have gp : Int32.ofNat n - 1 = Int32.ofNat (n - 1) := q9_k1 (by omega)
      have gN : ∀ i, i ≠ 0 → (i < 15 + 6 * b ∨ 15 + 6 * n ≤ i) → pq_tg g n b i = g i := fun i i1 i2 => by unfold pq_tg; rw [if_neg i1, if_neg (by omega), if_neg (by omega)]
      have gO : ∀ k z, k < n - 1 → z < 6 → pq_tg g n b (15 + 6 * k + z) = g (15 + 6 * (if b ≤ k then k + 1 else k) + z) := fun k z hk hz => by
        unfold pq_tg
        by_cases h : b ≤ k
        · rw [if_neg (by omega), if_neg (by omega), if_pos (by omega), if_pos h, show 15 + 6 * k + z + 6 = 15 + 6 * (k + 1) + z by omega]
        · rw [if_neg (by omega), if_neg (by omega), if_neg (by omega), if_neg h]
      have gB : ∀ k, k < n - 1 → pq_tg g n b (15 + 6 * k) = g (15 + 6 * (if b ≤ k then k + 1 else k)) ∧ pq_tg g n b (16 + 6 * k) = g (16 + 6 * (if b ≤ k then k + 1 else k)) ∧ pq_tg g n b (17 + 6 * k) = g (17 + 6 * (if b ≤ k then k + 1 else k)) ∧ pq_tg g n b (18 + 6 * k) = g (18 + 6 * (if b ≤ k then k + 1 else k)) ∧ pq_tg g n b (19 + 6 * k) = g (19 + 6 * (if b ≤ k then k + 1 else k)) ∧ pq_tg g n b (20 + 6 * k) = g (20 + 6 * (if b ≤ k then k + 1 else k)) := fun k hk => by
        have f := fun z hz => gO k z hk hz
        generalize (if b ≤ k then k + 1 else k) = k' at f ⊢
        have f0 := f 0 (by omega); have f1 := f 1 (by omega); have f2 := f 2 (by omega); have f3 := f 3 (by omega); have f4 := f 4 (by omega); have f5 := f 5 (by omega)
        rw [show 15 + 6 * k + 1 = 16 + 6 * k by omega, show 15 + 6 * k' + 1 = 16 + 6 * k' by omega] at f1
        rw [show 15 + 6 * k + 2 = 17 + 6 * k by omega, show 15 + 6 * k' + 2 = 17 + 6 * k' by omega] at f2
        rw [show 15 + 6 * k + 3 = 18 + 6 * k by omega, show 15 + 6 * k' + 3 = 18 + 6 * k' by omega] at f3
        rw [show 15 + 6 * k + 4 = 19 + 6 * k by omega, show 15 + 6 * k' + 4 = 19 + 6 * k' by omega] at f4
        rw [show 15 + 6 * k + 5 = 20 + 6 * k by omega, show 15 + 6 * k' + 5 = 20 + 6 * k' by omega] at f5
        exact ⟨f0, f1, f2, f3, f4, f5⟩
      have sc : s (x + 2) = σ (x + 2) := e2 _ (by omega)
      have h1p : Int32.ofNat b < Int32.ofNat n := by rw [← pq_v0 hV]; exact h1.2
      refine Or.inr ⟨Int32.ofNat (n - 1), rc_up s (x + 2) 2 (Int32.ofNat (n - 1)), pq_tg g n b, n - 1, p, pq_nnN (by omega), ?_, fun a ha => by rw [pq_upN (by omega)]; exact e2 a (by omega), ?_, ?_, fun τ hτ => ?_⟩
      · simp (disch := omega) only [f_X7_removeBarrel, q1_has hR, q5_bec, pq_kb hK, pq_b1 hR, pq_b2 hR, pq_b3 hR, q0_empty, f_X0_room, f_X0_isFreeFor, pq_w0 hX, pq_w1 hX, pq_k0 hK, pq_k1 hK, pq_k3 hK, pq_k4 hK, pq_kp hK, pq_ks hK, pq_bd, pq_ck, pq_bx, rc_lt, pq_i10, pq_i01, not_false_eq_true, not_true_eq_false, and_self, and_true, true_and, and_false, false_and, or_true, true_or, or_false, false_or, if_true, if_false, ↓reduceIte, Decidable.not_not, ne_eq, Int32.reduceLE, Int32.reduceLT, pq_nes, eq_self, pq_c0 hR, pq_in, pq_cl, h1, h1p, h2, f_X1_dropBarrel, e1, sc, pq_v0 hV, gp, pq_upE, pq_udE]
      · have sN : ∀ a, a ≠ x + 2 → (a < x + 2 + 7 ∨ x + 2 + 15 ≤ a) → rc_up s (x + 2) 2 (Int32.ofNat (n - 1)) a = σ a := fun a a1 a2 => by rw [pq_upN a1, e2 a (by omega)]
        have sC : ∀ z, z ≠ 2 → rc_up s (x + 2) 2 (Int32.ofNat (n - 1)) (x + 2) z = σ (x + 2) z := fun z hz => by rw [pq_upE, pq_udN hz, sc]
        refine ⟨⟨?_, ?_, ?_, ?_, ?_, ?_, ?_, ?_, ?_, ?_, ?_⟩, fun r hr => ?_, fun k hk => ?_, fun j hj => ?_, fun q hq => ?_⟩
        · rw [pq_upE, pq_udE]; unfold pq_tg; rw [if_pos rfl]
        · rw [sN _ (by omega) (by omega), gN _ (by omega) (by omega)]; exact pq_c1 hR
        · rw [sC _ (by omega), gN _ (by omega) (by omega)]; exact pq_c2 hR
        · rw [sC _ (by omega), gN _ (by omega) (by omega)]; exact pq_c3 hR
        · rw [sC _ (by omega), gN _ (by omega) (by omega)]; exact pq_c4 hR
        · rw [sC _ (by omega), gN _ (by omega) (by omega)]; exact pq_c5 hR
        · rw [sC _ (by omega), gN _ (by omega) (by omega)]; exact pq_c6 hR
        · rw [sC _ (by omega), gN _ (by omega) (by omega)]; exact pq_c7 hR
        · rw [sC _ (by omega), gN _ (by omega) (by omega)]; exact pq_c8 hR
        · rw [sC _ (by omega), gN _ (by omega) (by omega)]; exact pq_c9 hR
        · rw [sC _ (by omega), gN _ (by omega) (by omega)]; exact pq_c10 hR
        · rw [sN _ (by omega) (by omega), gN _ (by omega) (by omega)]; exact pq_cm hR hr
        · have hz6 : ∀ z, z < 6 → rc_up s (x + 2) 2 (Int32.ofNat (n - 1)) (x + 2 + 7 + k) z = σ (x + 2 + 7 + (if b ≤ k then k + 1 else k)) z := fun z hz => by
            rw [pq_upN (by omega)]
            by_cases h : b ≤ k
            · rw [e3 k h hk z hz, if_pos h]
            · rw [e2 _ (by omega), if_neg h]
          have hk2 : (if b ≤ k then k + 1 else k) < n := by split <;> omega
          have z := gB k hk
          rw [hz6 0 (by omega), hz6 1 (by omega), hz6 2 (by omega), hz6 3 (by omega), hz6 4 (by omega), hz6 5 (by omega), z.1, z.2.1, z.2.2.1, z.2.2.2.1, z.2.2.2.2.1, z.2.2.2.2.2]
          exact ⟨pq_b0 hR hk2, pq_b1 hR hk2, pq_b2 hR hk2, pq_b3 hR hk2, pq_b4 hR hk2, pq_b5 hR hk2⟩
        · rw [sN _ (by omega) (by omega), sN _ (by omega) (by omega), gN _ (by omega) (by omega), gN _ (by omega) (by omega)]
          exact ⟨pq_pp hR hj, pq_ps hR hj⟩
        · rw [sN _ (by omega) (by omega), gN _ (by omega) (by omega), gN _ (by omega) (by omega), gN _ (by omega) (by omega)]
          exact ⟨pq_q0 hR hq, pq_q1 hR hq, pq_q2 hR hq⟩
      · refine pq_Vn hV ⟨by unfold pq_tg; rw [if_pos rfl], by omega⟩ ⟨by rw [gN _ (by omega) (by omega)]; exact pq_v1 hV, h4⟩ (Or.inl (gN _ (by omega) (by omega))) (Or.inl (gN _ (by omega) (by omega))) (Or.inl (gN _ (by omega) (by omega))) (fun r hr => Or.inl (gN _ (by omega) (by omega))) (fun k hk => Or.inr ?_) (fun j hj => Or.inl ⟨hj, gN _ (by omega) (by omega), gN _ (by omega) (by omega)⟩)
        have z := gB k hk
        have hk2 : (if b ≤ k then k + 1 else k) < n := by split <;> omega
        rw [z.1, z.2.1, z.2.2.1, z.2.2.2.1, z.2.2.2.2.1, z.2.2.2.2.2, gN 3 (by omega) (by omega)]
        have y := pq_VB hV hk2
        exact ⟨y.1, y.2.1, ⟨y.2.2.1.1, by have := y.2.2.1.2; omega⟩, y.2.2.2⟩
      · obtain ⟨t, u1, u2, u3⟩ := qo_t9 hM (M := n - 1) (by omega) (6 * (n - 1) - 6 * b) (99999 - (6 * (n - 1) - 6 * b)) (6 * b) τ (by omega)
        obtain ⟨t2, v1, v2, v3⟩ := qo_t8 hM (M := n - 1) (by omega) 6 (99999 - 6) 0 t (by omega)
        rw [← pq_fu _ (by omega)] at u1 v1
        rw [show Int32.ofNat 0 = (0 : Int32) from rfl] at v1
        refine ⟨rc_up (rc_up t2 (x + 308 + 1) 0 (Int32.ofNat (n - 1))) (x + 308) 17 (Int32.ofNat (n - 1)), ?_, pq_fin ?_ (fun a ha => by rw [pq_upN ha, v2 a ha, u2 a ha])⟩
        · simp (disch := omega) only [f_X9_takes, q9_isB hM hτ hV, q9_ref, pq_m1 hM, hτ, q9_o1 hM, pq_bd, pq_ck, pq_bx, rc_lt, pq_i10, pq_i01, not_false_eq_true, not_true_eq_false, and_self, and_true, true_and, and_false, false_and, or_true, true_or, or_false, false_or, if_true, if_false, ↓reduceIte, Decidable.not_not, ne_eq, Int32.reduceLE, Int32.reduceLT, pq_nes, eq_self, h1, h1p, hz, h2, pq_v0 hV, gp, q9_l6, u1, v1, q9_don]
        · simp only [pq_upE]
          funext i
          unfold pq_tg
          simp only [upd, v3, u3, hτ]
          repeat' split
          all_goals first | rfl | omega
    · refine Or.inl ⟨5, g (16 + 6 * b), by decide, ?_, fun τ hτ => ?_⟩
      · simp (disch := omega) only [f_X7_removeBarrel, q1_has hR, q5_bec, pq_kb hK, pq_b1 hR, pq_b2 hR, pq_b3 hR, q0_empty, f_X0_room, f_X0_isFreeFor, pq_w0 hX, pq_w1 hX, pq_k0 hK, pq_k1 hK, pq_k3 hK, pq_k4 hK, pq_kp hK, pq_ks hK, pq_bd, pq_ck, pq_bx, rc_lt, pq_i10, pq_i01, not_false_eq_true, not_true_eq_false, and_self, and_true, true_and, and_false, false_and, or_true, true_or, or_false, false_or, if_true, if_false, ↓reduceIte, Decidable.not_not, ne_eq, Int32.reduceLE, Int32.reduceLT, pq_nes, eq_self, pq_c0 hR, pq_in, pq_cl, h1, h2]
      · simp (disch := omega) only [f_X9_takes, q9_isB hM hτ hV, q9_ref, pq_m1 hM, hτ, q9_o1 hM, pq_bd, pq_ck, pq_bx, rc_lt, pq_i10, pq_i01, not_false_eq_true, not_true_eq_false, and_self, and_true, true_and, and_false, false_and, or_true, true_or, or_false, false_or, if_true, if_false, ↓reduceIte, Decidable.not_not, ne_eq, Int32.reduceLE, Int32.reduceLT, pq_nes, eq_self, if_pos h1, hz, h2]
  · refine Or.inl ⟨3, g 0, by decide, ?_, fun τ hτ => ?_⟩
    · simp (disch := omega) only [f_X7_removeBarrel, q1_has hR, q5_bec, pq_kb hK, pq_b1 hR, pq_b2 hR, pq_b3 hR, q0_empty, f_X0_room, f_X0_isFreeFor, pq_w0 hX, pq_w1 hX, pq_k0 hK, pq_k1 hK, pq_k3 hK, pq_k4 hK, pq_kp hK, pq_ks hK, pq_bd, pq_ck, pq_bx, rc_lt, pq_i10, pq_i01, not_false_eq_true, not_true_eq_false, and_self, and_true, true_and, and_false, false_and, or_true, true_or, or_false, false_or, if_true, if_false, ↓reduceIte, Decidable.not_not, ne_eq, Int32.reduceLE, Int32.reduceLT, pq_nes, eq_self, pq_c0 hR, pq_in, pq_cl, if_neg h1]
    · simp (disch := omega) only [f_X9_takes, q9_isB hM hτ hV, q9_ref, pq_m1 hM, hτ, q9_o1 hM, pq_bd, pq_ck, pq_bx, rc_lt, pq_i10, pq_i01, not_false_eq_true, not_true_eq_false, and_self, and_true, true_and, and_false, false_and, or_true, true_or, or_false, false_or, if_true, if_false, ↓reduceIte, Decidable.not_not, ne_eq, Int32.reduceLE, Int32.reduceLT, pq_nes, eq_self, if_neg h1]
end PQOP3
