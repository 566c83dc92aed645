/-! THE CHANGES KEEP WHAT ELSE HOLDS -/
theorem is_s {f : Nat → Int32} : ∀ (d i : Nat), is f i (d + 1) = is f i d + f (i + d)
  | 0, i => by simp only [is, Int32.add_zero, Int32.zero_add, Nat.add_zero]
  | d + 1, i => by
    have h := is_s (f := f) d (i + 1)
    rw [is, h, is, show i + 1 + d = i + (d + 1) by omega]
    grind
theorem is_ch {f h : Nat → Int32} {b : Nat} : ∀ (d i : Nat), i ≤ b → b < i + d → (∀ k, i ≤ k → k < i + d → k ≠ b → f k = h k) → is f i d = is h i d + (f b - h b)
  | 0, i, h1, h2, _ => by omega
  | d + 1, i, h1, h2, q => by
    simp only [is]
    by_cases e : b = i
    · subst e
      rw [is_c d (b + 1) (fun k a1 a2 => q k (by omega) (by omega) (by omega))]
      grind
    · rw [is_ch d (i + 1) (by omega) (by omega) (fun k a1 a2 a3 => q k (by omega) (by omega) a3), q i (Nat.le_refl i) (by omega) (Ne.symm e)]
      grind
theorem is_sh {f : Nat → Int32} : ∀ (d i : Nat), is (fun b => f (b + 1)) i d = is f (i + 1) d
  | 0, i => rfl
  | d + 1, i => by simp only [is]; rw [is_sh d (i + 1)]
theorem is_tk {f h : Nat → Int32} {b : Nat} : ∀ (d i : Nat), i ≤ b → b < i + d + 1 → (∀ k, i ≤ k → k < b → f k = h k) → (∀ k, b ≤ k → k < i + d → f k = h (k + 1)) → is f i d + h b = is h i (d + 1)
  | 0, i, h1, h2, _, _ => by
    have e : b = i := by omega
    subst e
    simp only [is, Int32.add_zero, Int32.zero_add]
  | d + 1, i, h1, h2, q1, q2 => by
    by_cases e : b = i
    · subst e
      rw [is_c (d + 1) b (fun k a1 a2 => q2 k a1 (by omega)), is_sh (d + 1) b, show is h b (d + 1 + 1) = h b + is h (b + 1) (d + 1) from rfl, Int32.add_comm]
    · have ih := is_tk (f := f) (h := h) (b := b) d (i + 1) (by omega) (by omega) (fun k a1 a2 => q1 k (by omega) a2) (fun k a1 a2 => q2 k a1 (by omega))
      rw [is, is, q1 i (Nat.le_refl i) (by omega), ← ih]
      grind
theorem pb_flI {g : Nat → Int32} {n : Nat} : pb_fl g n = is (fun b => g (16 + 6 * b)) 0 n := by
  rw [pb_fl, is_fd, Int32.zero_add]
section PB7
variable {g g' : Nat → Int32} {n n' p N b : Nat}
theorem pI_m (h : pI g n) (h4 : g' 4 = g 4) (hb : ∀ b, b < n' → g' (18 + 6 * b) < g 4) (he : g' 5 + g' 6 = is (fun b => g' (16 + 6 * b)) 0 n' + g' 8 + g' 9) (h3 : g 3 ≤ g' 3) (hq : ∀ j, 71 ≤ j → j < 107 → g' j = g j) : pI g' n' := by
  obtain ⟨T, hT9, hT, hs⟩ := h.2.2
  refine ⟨fun b hb' => by rw [h4]; exact hb b hb', by rw [pb_flI]; exact he, T, hT9, by rw [h4]; exact hT, fun k hk hk2 => ?_⟩
  obtain ⟨s, y, l, s1, s9, y9, l9, e1, e2, e3, e4⟩ := hs k hk hk2
  have hm : k % 12 < 12 := Nat.mod_lt _ (by decide)
  exact ⟨s, y, l, s1, s9, y9, l9, by rw [hq _ (by omega) (by omega)]; exact e1, by rw [hq _ (by omega) (by omega)]; exact e2, by rw [hq _ (by omega) (by omega)]; exact e3, Int32.le_trans e4 h3⟩
theorem pI_e (h : pI g n) : g 5 + g 6 = is (fun b => g (16 + 6 * b)) 0 n + g 8 + g 9 := by rw [← pb_flI]; exact h.2.1
theorem pi_m4 (hV : pq_V g n p N) : (-1 : Int32) < g 4 := by
  have := (pq_v4 hV).1
  rw [Int32.lt_iff_toInt_lt, show (-1 : Int32).toInt = -1 from rfl]
  omega
theorem pi_clear (hV : pq_V g n p N) (h : pI g n) {i : Nat} (hi : i < 4) (v : Int32) : pI (upd g (11 + i) v) n := by
  refine pI_m h (pq_udN (by omega)) (fun b hb => by rw [pq_udN (by omega)]; exact h.1 b hb) ?_ (by rw [pq_udN (by omega)]; exact Int32.le_refl _) (fun j h1 h2 => pq_udN (by omega))
  rw [pq_udN (by omega), pq_udN (by omega), pq_udN (by omega), pq_udN (by omega), is_c n 0 (fun k _ _ => (pq_udN (by omega) : upd g (11 + i) v (16 + 6 * k) = g (16 + 6 * k)))]
  exact pI_e h
theorem pi_join (hV : pq_V g n p N) (h : pI g n) (hp : p < 4) (u s w : Int32) : pI (upd (upd (upd g (63 + 2 * p) u) (64 + 2 * p) s) 1 w) n := by
  have h8 := pq_vn hV
  have e : ∀ j, j ≠ 63 + 2 * p → j ≠ 64 + 2 * p → j ≠ 1 → upd (upd (upd g (63 + 2 * p) u) (64 + 2 * p) s) 1 w j = g j := fun j a1 a2 a3 => by rw [pq_udN a3, pq_udN a2, pq_udN a1]
  refine pI_m h (e _ (by omega) (by omega) (by omega)) (fun b hb => by rw [e _ (by omega) (by omega) (by omega)]; exact h.1 b hb) ?_ (by rw [e _ (by omega) (by omega) (by omega)]; exact Int32.le_refl _) (fun j h1 h2 => e _ (by omega) (by omega) (by omega))
  rw [e _ (by omega) (by omega) (by omega), e _ (by omega) (by omega) (by omega), e _ (by omega) (by omega) (by omega), e _ (by omega) (by omega) (by omega), is_c n 0 (fun k _ hk => e (16 + 6 * k) (by omega) (by omega) (by omega))]
  exact pI_e h
theorem pi_place (hV : pq_V g n p N) (h : pI g n) (hn : n < 8) (u w : Int32) : pI (upd (upd (upd (upd (upd (upd (upd g (16 + 6 * n) 0) (17 + 6 * n) 0) (18 + 6 * n) (-1)) (20 + 6 * n) 0) (19 + 6 * n) 0) (15 + 6 * n) u) 0 w) (n + 1) := by
  have e : ∀ j, j ≠ 0 → (j < 15 + 6 * n ∨ 21 + 6 * n ≤ j) → upd (upd (upd (upd (upd (upd (upd g (16 + 6 * n) 0) (17 + 6 * n) 0) (18 + 6 * n) (-1)) (20 + 6 * n) 0) (19 + 6 * n) 0) (15 + 6 * n) u) 0 w j = g j := fun j a1 a2 => by simp (disch := omega) only [pq_udN]
  refine pI_m h (e _ (by omega) (by omega)) (fun b hb => ?_) ?_ (by rw [e _ (by omega) (by omega)]; exact Int32.le_refl _) (fun j h1 h2 => e _ (by omega) (by omega))
  · by_cases q : b = n
    · subst q
      rw [pq_udN (by omega), pq_udN (by omega), pq_udN (by omega), pq_udN (by omega), pq_udE]
      exact pi_m4 hV
    · rw [e _ (by omega) (by omega)]; exact h.1 b (by omega)
  · rw [e _ (by omega) (by omega), e _ (by omega) (by omega), e _ (by omega) (by omega), e _ (by omega) (by omega), is_s, is_c n 0 (fun k _ hk => e (16 + 6 * k) (by omega) (by omega)), Nat.zero_add]
    rw [pq_udN (by omega), pq_udN (by omega), pq_udN (by omega), pq_udN (by omega), pq_udN (by omega), pq_udN (by omega), pq_udE, Int32.add_zero]
    exact pI_e h
theorem pi_hail (hV : pq_V g n p N) (h : pI g n) (hb : b < n) (k v2 v17 : Int32) : pI (upd (upd (upd (upd g (16 + 6 * b) (g (16 + 6 * b) + k)) (17 + 6 * b) v17) 2 v2) 6 (g 6 + k)) n := by
  have h8 := pq_vn hV
  have e : ∀ j, j ≠ 2 → j ≠ 6 → j ≠ 16 + 6 * b → j ≠ 17 + 6 * b → upd (upd (upd (upd g (16 + 6 * b) (g (16 + 6 * b) + k)) (17 + 6 * b) v17) 2 v2) 6 (g 6 + k) j = g j := fun j a1 a2 a3 a4 => by rw [pq_udN a2, pq_udN a1, pq_udN a4, pq_udN a3]
  refine pI_m h (e _ (by omega) (by omega) (by omega) (by omega)) (fun b' hb' => by rw [e _ (by omega) (by omega) (by omega) (by omega)]; exact h.1 b' hb') ?_ (by rw [e _ (by omega) (by omega) (by omega) (by omega)]; exact Int32.le_refl _) (fun j h1 h2 => e _ (by omega) (by omega) (by omega) (by omega))
  rw [e 5 (by omega) (by omega) (by omega) (by omega), e 8 (by omega) (by omega) (by omega) (by omega), e 9 (by omega) (by omega) (by omega) (by omega), pq_udE, is_ch (h := fun b => g (16 + 6 * b)) (b := b) n 0 (by omega) (by omega) (fun j _ _ hj => e (16 + 6 * j) (by omega) (by omega) (by omega) (by omega))]
  have := pI_e h
  rw [pq_udN (by omega), pq_udN (by omega), pq_udN (by omega), pq_udE]
  grind
theorem pi_year (hV : pq_V g n p N) (hN : N ≤ 890) (h : pI g n) : pI (upd (upd (pq_mg pq_yr 0 4 g) 2 0) 3 (g 3 + 1)) n := by
  have e : ∀ j, j ≠ 2 → j ≠ 3 → (j < 11 ∨ 15 ≤ j) → upd (upd (pq_mg pq_yr 0 4 g) 2 0) 3 (g 3 + 1) j = g j := fun j a1 a2 a3 => by rw [pq_udN a2, pq_udN a1, pq_mgE, if_neg (by omega)]
  refine pI_m h (e _ (by omega) (by omega) (by omega)) (fun b' hb' => by rw [e _ (by omega) (by omega) (by omega)]; exact h.1 b' hb') ?_ ?_ (fun j h1 h2 => e _ (by omega) (by omega) (by omega))
  · rw [e 5 (by omega) (by omega) (by omega), e 6 (by omega) (by omega) (by omega), e 8 (by omega) (by omega) (by omega), e 9 (by omega) (by omega) (by omega), is_c n 0 (fun k _ hk => e (16 + 6 * k) (by omega) (by omega) (by omega))]
    exact pI_e h
  · obtain ⟨Y, hY, eY⟩ := pq_natL (n := N) (pq_v3 hV).1 (pq_v3 hV).2 (by omega)
    rw [pq_udE, eY, pq_s]
    exact (pq_le (by omega) (by omega)).mpr (by omega)
theorem pi_leave (hV : pq_V g n p N) (h : pI g n) {j : Nat} (hj : j < p) : pI (pq_lg g p j) n := by
  have h8 := pq_vn hV
  have h4 := pq_vp hV
  have e : ∀ i, i ≠ 1 → (i < 63 ∨ 71 ≤ i) → pq_lg g p j i = g i := fun i a1 a2 => by simp only [pq_lg]; rw [if_neg a1, if_neg (by omega), if_neg (by omega)]
  refine pI_m h (e _ (by omega) (by omega)) (fun b hb => by rw [e _ (by omega) (by omega)]; exact h.1 b hb) ?_ (by rw [e _ (by omega) (by omega)]; exact Int32.le_refl _) (fun j h1 h2 => e _ (by omega) (by omega))
  rw [e _ (by omega) (by omega), e _ (by omega) (by omega), e _ (by omega) (by omega), e _ (by omega) (by omega), is_c n 0 (fun k _ hk => e (16 + 6 * k) (by omega) (by omega))]
  exact pI_e h
theorem pi_take (hV : pq_V g n p N) (h : pI g n) (hb : b < n) (h0 : g (16 + 6 * b) = 0) : pI (pq_tg g n b) (n - 1) := by
  have h8 := pq_vn hV
  have e : ∀ i, i ≠ 0 → (i < 15 + 6 * b ∨ 15 + 6 * n ≤ i) → pq_tg g n b i = g i := fun i a1 a2 => by simp only [pq_tg]; rw [if_neg a1, if_neg (by omega), if_neg (by omega)]
  have e2 : ∀ i, 15 + 6 * b ≤ i → i < 15 + 6 * (n - 1) → pq_tg g n b i = g (i + 6) := fun i a1 a2 => by simp only [pq_tg]; rw [if_neg (by omega), if_neg (by omega), if_pos ⟨a1, a2⟩]
  refine pI_m h (e _ (by omega) (by omega)) (fun k hk => ?_) ?_ (by rw [e _ (by omega) (by omega)]; exact Int32.le_refl _) (fun j h1 h2 => e _ (by omega) (by omega))
  · by_cases q : k < b
    · rw [e _ (by omega) (by omega)]; exact h.1 k (by omega)
    · rw [e2 _ (by omega) (by omega), show 18 + 6 * k + 6 = 18 + 6 * (k + 1) by omega]; exact h.1 (k + 1) (by omega)
  · have t := is_tk (f := fun k => pq_tg g n b (16 + 6 * k)) (h := fun k => g (16 + 6 * k)) (b := b) (n - 1) 0 (by omega) (by omega) (fun k _ hk => e _ (by omega) (by omega)) (fun k h1 h2 => by
      show pq_tg g n b (16 + 6 * k) = g (16 + 6 * (k + 1))
      rw [e2 _ (by omega) (by omega)]; rfl)
    rw [show n - 1 + 1 = n by omega] at t
    simp only [h0, Int32.add_zero] at t
    rw [e _ (by omega) (by omega), e _ (by omega) (by omega), e _ (by omega) (by omega), e _ (by omega) (by omega), t]
    exact pI_e h
theorem pi_goE {u hl : Int32} : pq_go g b u hl (16 + 6 * b) = g (16 + 6 * b) - u ∧ (pq_go g b u hl (18 + 6 * b) = g (18 + 6 * b) ∨ pq_go g b u hl (18 + 6 * b) = -1) := by
  unfold pq_go
  by_cases q : g (16 + 6 * b) - u = 0
  · rw [if_pos q, pq_emE.1, pq_emE.2.2.1]; exact ⟨q.symm, Or.inr rfl⟩
  · rw [if_neg q]
    exact ⟨by rw [pq_udN (by omega), pq_udE], Or.inl (by rw [pq_udN (by omega), pq_udN (by omega)])⟩
theorem pi_drink1 (hV : pq_V g n p N) (h : pI g n) (hb : b < n) (u hl : Int32) : pI (upd (pq_go g b u hl) 8 (g 8 + u)) n := by
  have h8 := pq_vn hV
  have e : ∀ j, j ≠ 8 → (j < 16 + 6 * b ∨ 21 + 6 * b ≤ j) → upd (pq_go g b u hl) 8 (g 8 + u) j = g j := fun j a1 a2 => by rw [pq_udN a1, pq_goN j a2]
  have k := pi_goE (g := g) (b := b) (u := u) (hl := hl)
  refine pI_m h (e _ (by omega) (by omega)) (fun c hc => ?_) ?_ (by rw [e _ (by omega) (by omega)]; exact Int32.le_refl _) (fun j h1 h2 => e _ (by omega) (by omega))
  · by_cases q : c = b
    · subst q
      rw [pq_udN (by omega)]
      rcases k.2 with z | z
      · rw [z]; exact h.1 c hc
      · rw [z]; exact pi_m4 hV
    · rw [e _ (by omega) (by omega)]; exact h.1 c hc
  · rw [e 5 (by omega) (by omega), e 6 (by omega) (by omega), e 9 (by omega) (by omega), pq_udE, is_ch (h := fun b => g (16 + 6 * b)) (b := b) n 0 (by omega) (by omega) (fun j _ _ hj => e (16 + 6 * j) (by omega) (by omega)), pq_udN (by omega), k.1]
    have := pI_e h
    grind
theorem pi_drink2 (hV : pq_V g n p N) (h : pI g n) (hb : b < n) (u w : Int32) : pI (pq_em (upd (upd (upd g 8 (g 8 + u)) 9 (g 9 + (g (16 + 6 * b) - u))) 10 w) b) n := by
  have h8 := pq_vn hV
  have e : ∀ j, j ≠ 8 → j ≠ 9 → j ≠ 10 → (j < 16 + 6 * b ∨ 21 + 6 * b ≤ j) → pq_em (upd (upd (upd g 8 (g 8 + u)) 9 (g 9 + (g (16 + 6 * b) - u))) 10 w) b j = g j := fun j a1 a2 a3 a4 => by rw [pq_emN j a4, pq_udN a3, pq_udN a2, pq_udN a1]
  refine pI_m h (e _ (by omega) (by omega) (by omega) (by omega)) (fun c hc => ?_) ?_ (by rw [e _ (by omega) (by omega) (by omega) (by omega)]; exact Int32.le_refl _) (fun j h1 h2 => e _ (by omega) (by omega) (by omega) (by omega))
  · by_cases q : c = b
    · subst q
      rw [pq_emE.2.2.1]; exact pi_m4 hV
    · rw [e _ (by omega) (by omega) (by omega) (by omega)]; exact h.1 c hc
  · rw [e 5 (by omega) (by omega) (by omega) (by omega), e 6 (by omega) (by omega) (by omega) (by omega), is_ch (h := fun b => g (16 + 6 * b)) (b := b) n 0 (by omega) (by omega) (fun j _ _ hj => e (16 + 6 * j) (by omega) (by omega) (by omega) (by omega)), pq_emE.1, pq_emN 8 (by omega), pq_emN 9 (by omega), pq_udN (by omega), pq_udN (by omega), pq_udE, pq_udN (by omega), pq_udE]
    have := pI_e h
    grind
theorem pi_pour (hV : pq_V g n p N) (h : pI g n) {f t : Nat} (hf : f < n) (ht : t < n) (hft : f ≠ t) (u hl : Int32) : pI (pq_pr g f t u hl) n := by
  have h8 := pq_vn hV
  have v18 := (pq_vtE (g := g) (f := f) (t := t)).1
  have e : ∀ j, j ≠ 16 + 6 * t → j ≠ 17 + 6 * t → (j < 16 + 6 * f ∨ 21 + 6 * f ≤ j) → (j < 18 + 6 * t ∨ 21 + 6 * t ≤ j) → pq_pr g f t u hl j = g j := fun j a1 a2 a3 a4 => by rw [pq_pr, pq_udN a1, pq_udN a2, pq_goN j a3, pq_vtN j a4]
  have k := pi_goE (g := pq_vt1 g f t) (b := f) (u := u) (hl := hl)
  have ef : pq_pr g f t u hl (16 + 6 * f) = g (16 + 6 * f) - u := by rw [pq_pr, pq_udN (by omega), pq_udN (by omega), k.1, pq_vtN _ (by omega)]
  have et : pq_pr g f t u hl (16 + 6 * t) = g (16 + 6 * t) + u := by rw [pq_pr, pq_udE]
  refine pI_m h (e _ (by omega) (by omega) (by omega) (by omega)) (fun c hc => ?_) ?_ (by rw [e _ (by omega) (by omega) (by omega) (by omega)]; exact Int32.le_refl _) (fun j h1 h2 => e _ (by omega) (by omega) (by omega) (by omega))
  · by_cases q : c = f
    · subst q
      rw [pq_pr, pq_udN (by omega), pq_udN (by omega)]
      rcases k.2 with z | z
      · rw [z, pq_vtN _ (by omega)]; exact h.1 c hc
      · rw [z]; exact pi_m4 hV
    · by_cases q2 : c = t
      · subst q2
        rw [pq_pr, pq_udN (by omega), pq_udN (by omega), pq_goN _ (by omega), v18]
        split
        · exact h.1 f hf
        · exact h.1 c hc
      · rw [e _ (by omega) (by omega) (by omega) (by omega)]; exact h.1 c hc
  · have i1 := is_ch (f := fun b => pq_pr g f t u hl (16 + 6 * b)) (h := fun b => upd (fun b => pq_pr g f t u hl (16 + 6 * b)) f (g (16 + 6 * f)) b) (b := f) n 0 (by omega) (by omega) (fun j _ _ hj => by
      show _ = upd (fun b => pq_pr g f t u hl (16 + 6 * b)) f (g (16 + 6 * f)) j
      rw [pq_udN hj])
    have i2 := is_ch (f := fun b => upd (fun b => pq_pr g f t u hl (16 + 6 * b)) f (g (16 + 6 * f)) b) (h := fun b => g (16 + 6 * b)) (b := t) n 0 (by omega) (by omega) (fun j _ _ hj => by
      by_cases q : j = f
      · subst q; exact pq_udE
      · show upd _ f _ j = _
        rw [pq_udN q]; exact e (16 + 6 * j) (by omega) (by omega) (by omega) (by omega))
    simp only [pq_udE] at i1
    rw [i2, ef, pq_udN (Ne.symm hft), et] at i1
    rw [e 5 (by omega) (by omega) (by omega) (by omega), e 6 (by omega) (by omega) (by omega) (by omega), e 8 (by omega) (by omega) (by omega) (by omega), e 9 (by omega) (by omega) (by omega) (by omega), i1]
    have := pI_e h
    grind
/-! the storm -/
theorem sf_1 {r b : Nat} {L : Int32} : (pq_f1 r b L g).2 (16 + 6 * b) + (pq_f1 r b L g).1 = g (16 + 6 * b) + L := by
  unfold pq_f1
  split
  · rename_i q
    simp (disch := omega) only [pq_udN, pq_udE, q.2.2]
    grind
  · rfl
theorem sf_l {r : Nat} : ∀ (d i : Nat) (L : Int32) (g : Nat → Int32), is (fun b => (pq_ff r i d L g).2 (16 + 6 * b)) i d + (pq_ff r i d L g).1 = is (fun b => g (16 + 6 * b)) i d + L := by
  intro d
  induction d with
  | zero => intro i L g; rfl
  | succ d ih =>
    intro i L g
    have h := ih (i + 1) (pq_f1 r i L g).1 (pq_f1 r i L g).2
    have h1 := sf_1 (g := g) (r := r) (b := i) (L := L)
    rw [is_c (f := fun b => (pq_f1 r i L g).2 (16 + 6 * b)) (h := fun b => g (16 + 6 * b)) d (i + 1) (fun b hb _ => pq_f1N _ (by omega))] at h
    simp only [is, pq_ff]
    rw [pq_ffN d (i + 1) _ _ (16 + 6 * i) (by omega)]
    grind
theorem sf_s {r : Nat} : ∀ (d i : Nat) (L : Int32) (g : Nat → Int32) (b : Nat), (pq_ff r i d L g).2 (18 + 6 * b) = g (18 + 6 * b) ∨ (pq_ff r i d L g).2 (18 + 6 * b) = g 4 := by
  intro d
  induction d with
  | zero => intro i L g b; exact Or.inl rfl
  | succ d ih =>
    intro i L g b
    have h := ih (i + 1) (pq_f1 r i L g).1 (pq_f1 r i L g).2 b
    rw [pq_f1N 4 (by omega)] at h
    simp only [pq_ff]
    rcases h with h | h
    · rw [h]
      unfold pq_f1
      split
      · by_cases q : b = i
        · subst q
          right
          simp (disch := omega) only [pq_udN, pq_udE]
        · left
          simp (disch := omega) only [pq_udN]
      · exact Or.inl rfl
    · exact Or.inr h
theorem sf_o {r : Nat} : ∀ (d i : Nat) (L : Int32) (g : Nat → Int32) (b : Nat), (pq_ff r i d L g).2 (15 + 6 * b) = g (15 + 6 * b) ∧ (g (15 + 6 * b) ≠ Int32.ofNat r → (pq_ff r i d L g).2 (16 + 6 * b) = g (16 + 6 * b)) := by
  intro d
  induction d with
  | zero => intro i L g b; exact ⟨rfl, fun _ => rfl⟩
  | succ d ih =>
    intro i L g b
    have h := ih (i + 1) (pq_f1 r i L g).1 (pq_f1 r i L g).2 b
    rw [pq_f1N (15 + 6 * b) (by omega)] at h
    simp only [pq_ff]
    refine ⟨h.1, fun hr => ?_⟩
    rw [h.2 hr]
    by_cases q : b = i
    · subst q
      unfold pq_f1
      rw [if_neg (fun z => hr z.2.1)]
    · exact pq_f1N _ (by omega)
/-- what a row and a roof's loop leave -/
theorem sf_r {s : Int32} : ∀ (d i : Nat) (a : Int32) (g : Nat → Int32), i + d = 4 → pb_fl (pq_rs s n i d a g).2 n + a = pb_fl g n + (pq_rs s n i d a g).1 ∧ ∀ b, (pq_rs s n i d a g).2 (18 + 6 * b) = g (18 + 6 * b) ∨ (pq_rs s n i d a g).2 (18 + 6 * b) = g 4 := by
  intro d
  induction d with
  | zero => intro i a g _; exact ⟨rfl, fun b => Or.inl rfl⟩
  | succ d ih =>
    intro i a g hi
    have h := ih (i + 1) (a + ((Int32.ofNat i + 1) * s - (pq_ff i 0 n ((Int32.ofNat i + 1) * s) g).1)) (pq_ro s n i g) (by omega)
    have e : ∀ j, 15 ≤ j → pq_ro s n i g j = (pq_ff i 0 n ((Int32.ofNat i + 1) * s) g).2 j := fun j hj => by rw [pq_ro, pq_udN (by omega), pq_udN (by omega)]
    have l := sf_l (r := i) n 0 ((Int32.ofNat i + 1) * s) g
    have e2 : pb_fl (pq_ro s n i g) n = is (fun b => (pq_ff i 0 n ((Int32.ofNat i + 1) * s) g).2 (16 + 6 * b)) 0 n := by
      rw [pb_flI]
      exact is_c n 0 (fun b _ _ => e _ (by omega))
    rw [← e2, ← pb_flI] at l
    simp only [pq_rs]
    refine ⟨by have := h.1; grind, fun b => ?_⟩
    rcases h.2 b with q | q
    · rw [q, e _ (by omega)]
      exact sf_s n 0 _ g b
    · right
      rw [q, pq_roN 4 (by omega) (by omega) (by omega)]
theorem sf_fd {f h : Nat → Int32 → Int32} : ∀ (d i : Nat) (a : Int32), (∀ b a, i ≤ b → b < i + d → f b a = h b a) → pq_fd f i d a = pq_fd h i d a := by
  intro d
  induction d with
  | zero => intro i a _; rfl
  | succ d ih =>
    intro i a q
    simp only [pq_fd]
    rw [q i a (Nat.le_refl i) (by omega)]
    exact ih (i + 1) _ (fun b a h1 h2 => q b a (by omega) (by omega))
theorem sf_c {s : Nat} (hs : s ≤ 9) {g0 : Nat → Int32} : ∀ (d i : Nat) (a : Int32) (g : Nat → Int32), i + d = 4 → (∀ b, g (15 + 6 * b) = g0 (15 + 6 * b) ∧ ∀ r, i ≤ r → r < 4 → g0 (15 + 6 * b) = Int32.ofNat r → g (16 + 6 * b) = g0 (16 + 6 * b)) → (pq_rs (Int32.ofNat s) n i d a g).1 = pq_fd (fun r a => a + pq_cg g0 n (Int32.ofNat s) r) i d a := by
  intro d
  induction d with
  | zero => intro i a g _ _; rfl
  | succ d ih =>
    intro i a g hi hg
    have hw := pq_Wb (r := i) hs (by omega)
    simp only [pq_rs, pq_fd]
    have e1 : (pq_ff i 0 n ((Int32.ofNat i + 1) * Int32.ofNat s) g).1 = pq_fd (pq_ca g0 (Int32.ofNat i)) 0 n ((Int32.ofNat i + 1) * Int32.ofNat s) := by
      rw [pq_Ww, pq_ffc n 0 _ g g (by omega) (fun _ _ => rfl)]
      refine sf_fd n 0 _ (fun b a _ hb => ?_)
      unfold pq_ca
      rw [(hg b).1]
      by_cases q : g0 (15 + 6 * b) = Int32.ofNat i
      · rw [(hg b).2 i (Nat.le_refl i) (by omega) q]
      · rw [if_neg (fun z => q z.1), if_neg (fun z => q z.1)]
    rw [e1]
    refine ih (i + 1) _ _ (by omega) (fun b => ?_)
    have e : ∀ j, 15 ≤ j → pq_ro (Int32.ofNat s) n i g j = (pq_ff i 0 n ((Int32.ofNat i + 1) * Int32.ofNat s) g).2 j := fun j hj => by rw [pq_ro, pq_udN (by omega), pq_udN (by omega)]
    have o := sf_o (r := i) n 0 ((Int32.ofNat i + 1) * Int32.ofNat s) g b
    rw [e _ (by omega), e _ (by omega)]
    refine ⟨o.1.trans (hg b).1, fun r h1 h2 h3 => ?_⟩
    rw [o.2 (by
      rw [(hg b).1, h3]
      exact fun z => by have := (pq_eq (by omega) (by omega)).mp z; omega)]
    exact (hg b).2 r (by omega) h2 h3
theorem pi_cg (hV : pq_V g n p N) {r s : Nat} (hr : r < 4) (hs : s ≤ 9) : ∃ c, c ≤ (r + 1) * s ∧ pq_cg g n (Int32.ofNat s) r = Int32.ofNat c := by
  have h8 := pq_vn hV
  have hw := pq_Wb hs hr
  obtain ⟨E, h1, h2, h3, h4⟩ := pq_cae (g := g) (r := Int32.ofNat r) ((r + 1) * s) (by omega) n 0 0
  rw [Nat.mul_zero, Nat.sub_zero] at h4
  refine ⟨(r + 1) * s - ((r + 1) * s - 20 * E), by omega, ?_⟩
  rw [pq_cg, pq_Ww, h4]
  exact (Int32.ofNat_sub _ _ (by omega)).symm
theorem pi_storm (hV : pq_V g n p N) (hN : N ≤ 890) (h : pI g n) {s T A kb : Nat} {G : Nat → Int32} (s1 : 1 ≤ s) (s9 : s ≤ 9) (hT : g 4 = Int32.ofNat T) (hT9 : T ≤ 890) (hG : pq_rs (Int32.ofNat s) n 0 4 0 g = (Int32.ofNat A, G)) (hA9 : A ≤ 144) : (Int32.ofNat A = pq_cg g n (Int32.ofNat s) 0 + pq_cg g n (Int32.ofNat s) 1 + pq_cg g n (Int32.ofNat s) 2 + pq_cg g n (Int32.ofNat s) 3) ∧ pI (upd (upd (upd (upd (upd (upd (upd G 5 (g 5 + Int32.ofNat A)) 7 (G 7)) 2 (Int32.ofNat kb)) (71 + 3 * (T % 12) + 0) (Int32.ofNat s)) (71 + 3 * (T % 12) + 1) (g 3)) (71 + 3 * (T % 12) + 2) (Int32.ofNat A)) 4 (Int32.ofNat (T + 1))) n := by
  have h8 := pq_vn hV
  have hm : T % 12 < 12 := Nat.mod_lt _ (by decide)
  have c := sf_c (n := n) s9 (g0 := g) 4 0 0 g (by omega) (fun b => ⟨rfl, fun _ _ _ _ => rfl⟩)
  have l := sf_r (n := n) (s := Int32.ofNat s) 4 0 0 g (by omega)
  have gN : ∀ j, j ≠ 7 → (j < 11 ∨ 15 + 6 * n ≤ j) → G j = g j := fun j h7 hj => by
    have := pq_rsN (n := n) (s := Int32.ofNat s) 4 0 0 g j (by omega) h7 hj
    rw [hG] at this
    exact this
  rw [hG] at c l
  have cA : Int32.ofNat A = pq_cg g n (Int32.ofNat s) 0 + pq_cg g n (Int32.ofNat s) 1 + pq_cg g n (Int32.ofNat s) 2 + pq_cg g n (Int32.ofNat s) 3 := by
    refine c.trans ?_
    simp only [pq_fd]
    rw [Int32.zero_add]
  have hA : A ≤ 10 * s := by
    obtain ⟨c0, b0, q0⟩ := pi_cg hV (r := 0) (by omega) s9
    obtain ⟨c1, b1, q1⟩ := pi_cg hV (r := 1) (by omega) s9
    obtain ⟨c2, b2, q2⟩ := pi_cg hV (r := 2) (by omega) s9
    obtain ⟨c3, b3, q3⟩ := pi_cg hV (r := 3) (by omega) s9
    rw [q0, q1, q2, q3, ← Int32.ofNat_add, ← Int32.ofNat_add, ← Int32.ofNat_add] at cA
    have := (pq_eq (by omega) (by omega)).mp cA
    omega
  refine ⟨cA, ?_⟩
  have e : ∀ j, j ≠ 2 → j ≠ 4 → j ≠ 5 → j ≠ 7 → (j < 71 + 3 * (T % 12) ∨ 74 + 3 * (T % 12) ≤ j) → upd (upd (upd (upd (upd (upd (upd G 5 (g 5 + Int32.ofNat A)) 7 (G 7)) 2 (Int32.ofNat kb)) (71 + 3 * (T % 12) + 0) (Int32.ofNat s)) (71 + 3 * (T % 12) + 1) (g 3)) (71 + 3 * (T % 12) + 2) (Int32.ofNat A)) 4 (Int32.ofNat (T + 1)) j = G j := fun j a2 a4 a5 a7 aq => by
    rw [pq_udN a4, pq_udN (by omega), pq_udN (by omega), pq_udN (by omega), pq_udN a2, pq_udN a7, pq_udN a5]
  obtain ⟨T0, hT0, eT0, hs⟩ := h.2.2
  have hTT : T0 = T := (pq_eq (by omega) (by omega)).mp (eT0.symm.trans hT)
  subst hTT
  obtain ⟨Y, hY, eY⟩ := pq_natL (n := N) (pq_v3 hV).1 (pq_v3 hV).2 (by omega)
  have eg3 : ∀ (P : Int32 → Prop), P (g 3) → P (upd (upd (upd (upd (upd (upd (upd G 5 (g 5 + Int32.ofNat A)) 7 (G 7)) 2 (Int32.ofNat kb)) (71 + 3 * (T0 % 12) + 0) (Int32.ofNat s)) (71 + 3 * (T0 % 12) + 1) (g 3)) (71 + 3 * (T0 % 12) + 2) (Int32.ofNat A)) 4 (Int32.ofNat (T0 + 1)) 3) := fun P hP => by
    rw [e 3 (by omega) (by omega) (by omega) (by omega) (by omega), gN 3 (by omega) (by omega)]; exact hP
  refine ⟨fun b hb => ?_, ?_, T0 + 1, by omega, pq_udE, fun k hk hk2 => ?_⟩
  · rw [e _ (by omega) (by omega) (by omega) (by omega) (by omega), pq_udE, ← pq_s]
    have h4 : g 4 < Int32.ofNat T0 + 1 := by rw [hT, pq_s]; exact (pq_lt (by omega) (by omega)).mpr (by omega)
    rcases l.2 b with q | q
    · exact Int32.lt_trans (by rw [show G (18 + 6 * b) = g (18 + 6 * b) from q]; exact h.1 b hb) h4
    · rw [show G (18 + 6 * b) = g 4 from q]; exact h4
  · have l1 : pb_fl G n + 0 = pb_fl g n + Int32.ofNat A := l.1
    have e1 : pb_fl (upd (upd (upd (upd (upd (upd (upd G 5 (g 5 + Int32.ofNat A)) 7 (G 7)) 2 (Int32.ofNat kb)) (71 + 3 * (T0 % 12) + 0) (Int32.ofNat s)) (71 + 3 * (T0 % 12) + 1) (g 3)) (71 + 3 * (T0 % 12) + 2) (Int32.ofNat A)) 4 (Int32.ofNat (T0 + 1))) n = pb_fl G n := by
      rw [pb_flI, pb_flI]
      exact is_c n 0 (fun b _ hb => e _ (by omega) (by omega) (by omega) (by omega) (by omega))
    rw [e1, e 6 (by omega) (by omega) (by omega) (by omega) (by omega), e 8 (by omega) (by omega) (by omega) (by omega) (by omega), e 9 (by omega) (by omega) (by omega) (by omega) (by omega), gN 6 (by omega) (by omega), gN 8 (by omega) (by omega), gN 9 (by omega) (by omega)]
    rw [pq_udN (show 5 ≠ 4 by decide), pq_udN (by omega), pq_udN (by omega), pq_udN (by omega), pq_udN (show 5 ≠ 2 by decide), pq_udN (show 5 ≠ 7 by decide), pq_udE]
    have := h.2.1
    grind
  · by_cases q : k = T0
    · subst q
      refine ⟨s, Y, A, s1, s9, by omega, hA, ?_, ?_, ?_, ?_⟩
      · rw [pq_udN (by omega), pq_udN (by omega), pq_udN (by omega), Nat.add_zero, pq_udE]
      · rw [show 72 + 3 * (k % 12) = 71 + 3 * (k % 12) + 1 by omega, pq_udN (by omega), pq_udN (by omega), pq_udE]; exact eY
      · rw [show 73 + 3 * (k % 12) = 71 + 3 * (k % 12) + 2 by omega, pq_udN (by omega), pq_udE]
      · exact eg3 (fun v => Int32.ofNat Y ≤ v) (by rw [eY]; exact Int32.le_refl _)
    · obtain ⟨s', y, l', s1', s9', y9, l9, e1, e2, e3, e4⟩ := hs k (by omega) (by omega)
      have hk12 : k % 12 < 12 := Nat.mod_lt _ (by decide)
      have hd : k % 12 ≠ T0 % 12 := by omega
      refine ⟨s', y, l', s1', s9', y9, l9, ?_, ?_, ?_, ?_⟩
      · rw [e _ (by omega) (by omega) (by omega) (by omega) (by omega), gN _ (by omega) (by omega)]; exact e1
      · rw [e _ (by omega) (by omega) (by omega) (by omega) (by omega), gN _ (by omega) (by omega)]; exact e2
      · rw [e _ (by omega) (by omega) (by omega) (by omega) (by omega), gN _ (by omega) (by omega)]; exact e3
      · exact eg3 (fun v => Int32.ofNat y ≤ v) e4
end PB7
