theorem pq_le4 {i : Nat} (h : i < 2147483648) : ((4 : Int32) ≤ Int32.ofNat i) = (4 ≤ i) := propext (pq_le (n := 4) (by decide) h)
theorem pq_le8 {i : Nat} (h : i < 2147483648) : ((8 : Int32) ≤ Int32.ofNat i) = (8 ≤ i) := propext (pq_le (n := 8) (by decide) h)
theorem pq_le12 {i : Nat} (h : i < 2147483648) : ((12 : Int32) ≤ Int32.ofNat i) = (12 ≤ i) := propext (pq_le (n := 12) (by decide) h)
theorem pq_le107 {i : Nat} (h : i < 2147483648) : ((107 : Int32) ≤ Int32.ofNat i) = (107 ≤ i) := propext (pq_le (n := 107) (by decide) h)
theorem pq_le749 {i : Nat} (h : i < 2147483648) : ((749 : Int32) ≤ Int32.ofNat i) = (749 ≤ i) := propext (pq_le (n := 749) (by decide) h)
theorem pq_or0 {a b : Int32} : (a ||| b) = 0 ↔ a = 0 ∧ b = 0 := by
  rw [← Int32.toBitVec_inj, ← Int32.toBitVec_inj, ← Int32.toBitVec_inj, Int32.toBitVec_or]
  exact BitVec.or_eq_zero_iff
theorem pq_sh : ∀ j, j < 4 → ¬ ((1 : Int32) <<< ((Int32.ofNat j) &&& 31)) = 0 := by decide
def pq_U (g : Nat → Int32) (p : Nat) (v : Int32) : Prop := ∀ j, j < p → ¬ (¬ v ≤ 0 ∧ ¬ v ≤ 50 - 5 * (g (63 + 2 * j) + 2 * g (64 + 2 * j)))
theorem pq_ns0 {g : Nat → Int32} {v : Int32} {p : Nat} (hp : p ≤ 4) : ∀ (d i : Nat) (acc : Int32), i + d = p → (pq_fd (fun j a => if ¬ v ≤ 0 ∧ ¬ v ≤ 50 - 5 * (g (63 + 2 * j) + 2 * g (64 + 2 * j)) then a ||| ((1 : Int32) <<< ((Int32.ofNat j) &&& 31)) else a) i d acc = 0 ↔ acc = 0 ∧ ∀ j, i ≤ j → j < p → ¬ (¬ v ≤ 0 ∧ ¬ v ≤ 50 - 5 * (g (63 + 2 * j) + 2 * g (64 + 2 * j)))) := by
  intro d
  induction d with
  | zero =>
    intro i acc h
    rw [pq_fd]
    exact ⟨fun q => ⟨q, fun j h1 h2 => by omega⟩, fun q => q.1⟩
  | succ d ih =>
    intro i acc h
    rw [pq_fd, ih (i + 1) _ (by omega)]
    by_cases hc : ¬ v ≤ 0 ∧ ¬ v ≤ 50 - 5 * (g (63 + 2 * i) + 2 * g (64 + 2 * i))
    · rw [if_pos hc, pq_or0]
      constructor
      · intro q; exact absurd q.1.2 (pq_sh i (by omega))
      · intro q; exact absurd hc (q.2 i (by omega) (by omega))
    · rw [if_neg hc]
      constructor
      · intro q
        refine ⟨q.1, fun j h1 h2 => ?_⟩
        by_cases hj : j = i
        · subst hj; exact hc
        · exact q.2 j (by omega) h2
      · intro q; exact ⟨q.1, fun j h1 h2 => q.2 j (by omega) h2⟩
theorem pq_nsU {g : Nat → Int32} {v : Int32} {p : Nat} (hp : p ≤ 4) : pq_ns g p v = 0 ↔ pq_U g p v := by
  unfold pq_ns pq_U
  rw [pq_ns0 hp p 0 0 (by omega)]
  exact ⟨fun q j h => q.2 j (Nat.zero_le _) h, fun q => ⟨rfl, fun j _ h => q j h⟩⟩
/-- the hail's part grows with more hail -/
theorem pq_mono : ∀ l, l < 21 → ∀ h, h < 21 → h ≤ l → ∀ k, k < 21 → 0 < l → 100 * (h + k) / (l + k) ≤ 100 * (h + k + 1) / (l + k + 1) := by
  intro l hl h hh hhl k hk h0
  rw [Nat.le_div_iff_mul_le (by omega)]
  have e := Nat.div_mul_le_self (100 * (h + k)) (l + k)
  have e2 : 100 * (h + k) / (l + k) ≤ 100 := Nat.div_le_of_le_mul (by rw [Nat.mul_comm (l + k)]; exact Nat.mul_le_mul_left 100 (by omega))
  have e3 : 100 * (h + k) / (l + k) * (l + k + 1) = 100 * (h + k) / (l + k) * (l + k) + 100 * (h + k) / (l + k) := by rw [Nat.mul_succ]
  omega
section PQQ6
variable {rf : rc_F} {σ : rc_S} {c m x : Nat} {g : Nat → Int32} {n p N b : Nat}
/-- the part with k litres of hail more -/
def pq_pk (g : Nat → Int32) (b k : Nat) : Int32 := pq_part (g (17 + 6 * b) + Int32.ofNat k) (g (16 + 6 * b) + Int32.ofNat k)
theorem pq_pkm (hV : pq_V g n p N) (hb : b < n) (h2 : g (16 + 6 * b) ≠ 0) {k : Nat} (hk : k < 21) : pq_pk g b k ≤ pq_pk g b (k + 1) := by
  obtain ⟨H, L, T, a1, a2, -, e1, e2, -⟩ := pq_bN hV hb
  have hL : L ≠ 0 := fun q => h2 (by rw [e2, q]; rfl)
  unfold pq_pk
  rw [e1, e2, ← Int32.ofNat_add, ← Int32.ofNat_add, ← Int32.ofNat_add, ← Int32.ofNat_add, pq_prN (by omega) (by omega), pq_prN (by omega) (by omega), if_neg (by omega), if_neg (by omega)]
  have b1 : 100 * (H + k) / (L + k) ≤ 100 := Nat.div_le_of_le_mul (by rw [Nat.mul_comm (L + k)]; exact Nat.mul_le_mul_left 100 (by omega))
  have b2 : 100 * (H + (k + 1)) / (L + (k + 1)) ≤ 100 := Nat.div_le_of_le_mul (by rw [Nat.mul_comm (L + (k + 1))]; exact Nat.mul_le_mul_left 100 (by omega))
  rw [pq_le (by omega) (by omega)]
  exact pq_mono L (by omega) H (by omega) a1 k hk (by omega)
theorem pq_Um {v v' : Int32} (h : v ≤ v') (hU : pq_U g p v') : pq_U g p v := by
  intro j hj q
  refine hU j hj ⟨fun z => q.1 (Int32.le_trans h z), fun z => q.2 (Int32.le_trans h z)⟩
theorem pq_pk0 : pq_pk g b 0 = pq_P g b := by
  unfold pq_pk pq_P
  rw [show Int32.ofNat 0 = (0 : Int32) from rfl, Int32.add_zero, Int32.add_zero]
/-- the most that is not noticed -/
theorem pq_top (g : Nat → Int32) (p b : Nat) (h0 : pq_U g p (pq_pk g b 0)) : ∀ M : Nat, ∃ D, D ≤ M ∧ pq_U g p (pq_pk g b D) ∧ ∀ k, D < k → k ≤ M → ¬ pq_U g p (pq_pk g b k) := by
  intro M
  induction M with
  | zero => exact ⟨0, by omega, h0, fun k h1 h2 => by omega⟩
  | succ M ih =>
    obtain ⟨D, d1, d2, d3⟩ := ih
    by_cases hc : pq_U g p (pq_pk g b (M + 1))
    · exact ⟨M + 1, by omega, hc, fun k h1 h2 => by omega⟩
    · refine ⟨D, by omega, d2, fun k h1 h2 => ?_⟩
      by_cases hk : k = M + 1
      · subst hk; exact hc
      · exact d3 k h1 (by omega)
theorem q1_partk (hR : pq_R σ c g n p) (hV : pq_V g n p N) (hb : b < n) {k : Nat} (hk : k < 100) : f_X0_hailPartWith rf (c + 7 + b) (Int32.ofNat k) σ = some (pq_pk g b k, σ) := by
  obtain ⟨H, L, T, a1, a2, -, e1, e2, -⟩ := pq_bN hV hb
  rw [q0_partW (by rw [pq_b1 hR hb, e2, ← Int32.ofNat_add, pq_ti (by omega)]; omega), pq_b1 hR hb, pq_b2 hR hb]; rfl
theorem pq_dec {k : Nat} (h : 0 < k) : Int32.ofNat k + -1 = Int32.ofNat (k - 1) := by
  rw [Int32.ofNat_sub _ _ h, Int32.sub_eq_add_neg]; rfl
theorem q8_hid (hX : pq_X rf x) (hR : pq_R σ (x + 2) g n p) (hV : pq_V g n p N) (hb : b < n) {K : Int32 → rc_S → Option (Nat × Int32 × rc_S)} (hK0 : K 0 σ = some (0, 0, σ)) {D M : Nat} (hM : M ≤ 20) (dU : pq_U g p (pq_pk g b D)) (dN : ∀ k, D < k → k ≤ M → ¬ pq_U g p (pq_pk g b k)) : ∀ (i fu : Nat), D ≤ i → i ≤ M → f_X8_hidden_15 rf x (x + 2 + 7 + b) K (fu + i + 1) (Int32.ofNat i) σ = some (0, Int32.ofNat D, σ) := by
  have hKk := pq_xk hX
  have h4 := pq_vp hV
  intro i
  induction i with
  | zero =>
    intro fu h1 h2
    rw [f_X8_hidden_15, if_pos (show Int32.ofNat 0 ≤ 0 by decide), show Int32.ofNat 0 = (0 : Int32) from rfl, hK0, show D = 0 by omega]; rfl
  | succ i ih =>
    intro fu h1 h2
    have hp : ¬ Int32.ofNat (i + 1) ≤ 0 := fun q => by have := (pq_le (by omega) (show 0 < 2147483648 by decide)).mp q; omega
    rw [show fu + (i + 1) + 1 = (fu + i + 1) + 1 from rfl, f_X8_hidden_15, if_neg hp, q1_partk hR hV hb (by omega), pq_bd, pq_x1 hX, pq_k3 hKk, q_3_noses hKk hR hV, pq_bd]
    by_cases hc : pq_U g p (pq_pk g b (i + 1))
    · have hD : D = i + 1 := by
        by_cases hD : D = i + 1
        · exact hD
        · exact absurd hc (dN (i + 1) (by omega) h2)
      rw [if_pos ((pq_nsU h4).mpr hc), hD]
    · have hD : D ≠ i + 1 := fun q => hc (by rw [← q]; exact dU)
      rw [if_neg (fun q => hc ((pq_nsU h4).mp q)), rc_lt, pq_dec (by omega)]
      exact ih fu (by omega) (by omega)
theorem q9_hid (hM9 : pq_M rf m) (hg : σ (m + 1) = g) (hV : pq_V g n p N) (hb : b < n) {D M : Nat} (hM : M ≤ 20) (dU : pq_U g p (pq_pk g b D)) (dN : ∀ k, D < k → k ≤ M → ¬ pq_U g p (pq_pk g b k)) : ∀ (i fu : Nat), D ≤ i → i ≤ M → f_X9_hidden_73 rf m (Int32.ofNat b) (fun v τ => some (v, τ)) (fu + i + 1) (Int32.ofNat i) σ = some (Int32.ofNat D, σ) := by
  have h4 := pq_vp hV
  have h8 := pq_vn hV
  intro i
  induction i with
  | zero =>
    intro fu h1 h2
    rw [f_X9_hidden_73, q9_of2 hM9 hg (by omega), pq_bd, q9_of1 hM9 hg (by omega), pq_bd, q9_partOf, pq_bd, q_9_noses hM9 hg hV, pq_bd, show D = 0 by omega, if_pos ((pq_nsU h4).mpr (by rw [show D = 0 by omega] at dU; exact dU))]
  | succ i ih =>
    intro fu h1 h2
    rw [show fu + (i + 1) + 1 = (fu + i + 1) + 1 from rfl, f_X9_hidden_73, q9_of2 hM9 hg (by omega), pq_bd, q9_of1 hM9 hg (by omega), pq_bd, q9_partOf, pq_bd, q_9_noses hM9 hg hV, pq_bd, show pq_part (g (17 + 6 * b) + Int32.ofNat (i + 1)) (g (16 + 6 * b) + Int32.ofNat (i + 1)) = pq_pk g b (i + 1) from rfl]
    by_cases hc : pq_U g p (pq_pk g b (i + 1))
    · have hD : D = i + 1 := by
        by_cases hD : D = i + 1
        · exact hD
        · exact absurd hc (dN (i + 1) (by omega) h2)
      rw [if_pos ((pq_nsU h4).mpr hc), hD]
    · have hD : D ≠ i + 1 := fun q => hc (by rw [← q]; exact dU)
      rw [if_neg (fun q => hc ((pq_nsU h4).mp q)), rc_lt, pq_dec (by omega)]
      exact ih fu (by omega) (by omega)
/-- the best palate notices what anyone notices -/
theorem pq_bst (hV : pq_V g n p N) {v : Int32} : ∀ (d i : Nat) (acc : Int32), i + d = p → 0 ≤ acc → acc ≤ 11 → (¬ v ≤ 0 → (acc = 0 ∨ ∃ j, j < i ∧ acc = g (63 + 2 * j) + 2 * g (64 + 2 * j))) → (∀ j, j < i → g (63 + 2 * j) + 2 * g (64 + 2 * j) ≤ acc) →
    0 ≤ pq_fd (fun j a => if a < g (63 + 2 * j) + 2 * g (64 + 2 * j) then g (63 + 2 * j) + 2 * g (64 + 2 * j) else a) i d acc ∧ pq_fd (fun j a => if a < g (63 + 2 * j) + 2 * g (64 + 2 * j) then g (63 + 2 * j) + 2 * g (64 + 2 * j) else a) i d acc ≤ 11 ∧
    (¬ v ≤ 0 → (pq_fd (fun j a => if a < g (63 + 2 * j) + 2 * g (64 + 2 * j) then g (63 + 2 * j) + 2 * g (64 + 2 * j) else a) i d acc = 0 ∨ ∃ j, j < p ∧ pq_fd (fun j a => if a < g (63 + 2 * j) + 2 * g (64 + 2 * j) then g (63 + 2 * j) + 2 * g (64 + 2 * j) else a) i d acc = g (63 + 2 * j) + 2 * g (64 + 2 * j))) ∧
    (∀ j, j < p → g (63 + 2 * j) + 2 * g (64 + 2 * j) ≤ pq_fd (fun j a => if a < g (63 + 2 * j) + 2 * g (64 + 2 * j) then g (63 + 2 * j) + 2 * g (64 + 2 * j) else a) i d acc) := by
  intro d
  induction d with
  | zero =>
    intro i acc h a0 a1 a2 a3
    have hi : i = p := by omega
    subst hi
    exact ⟨a0, a1, a2, a3⟩
  | succ d ih =>
    intro i acc h a0 a1 a2 a3
    rw [pq_fd]
    have v1 := pq_vpp hV (show i < p by omega)
    have v2 := pq_vps hV (show i < p by omega)
    have hp : 0 ≤ g (63 + 2 * i) + 2 * g (64 + 2 * i) ∧ g (63 + 2 * i) + 2 * g (64 + 2 * i) ≤ 11 := by
      have w1 := pq_i0 v1.1
      have w2 : g (63 + 2 * i) ≤ 9 := by rw [Int32.le_iff_toInt_le]; exact v1.2
      rcases v2 with e | e <;> rw [e] <;> constructor <;> grind
    by_cases hc : acc < g (63 + 2 * i) + 2 * g (64 + 2 * i)
    · simp only [if_pos hc]
      refine ih (i + 1) _ (by omega) hp.1 hp.2 (fun _ => Or.inr ⟨i, by omega, rfl⟩) (fun j hj => ?_)
      by_cases e : j = i
      · subst e; exact Int32.le_refl _
      · exact Int32.le_trans (a3 j (by omega)) (Int32.le_of_lt hc)
    · simp only [if_neg hc]
      refine ih (i + 1) _ (by omega) a0 a1 (fun hv => ?_) (fun j hj => ?_)
      · rcases a2 hv with e | ⟨j, h1, h2⟩
        · exact Or.inl e
        · exact Or.inr ⟨j, by omega, h2⟩
      · by_cases e : j = i
        · subst e; exact Int32.not_lt.mp hc
        · exact a3 j (by omega)
theorem q3_best (hK : pq_K rf c) (hR : pq_R σ c g n p) (hV : pq_V g n p N) {v : Int32} : ∃ r, f_X3_doesBestNotice rf (c + 3) v σ = some (r, σ) ∧ (r = 0 ↔ pq_U g p v) := by
  have h4 := pq_vp hV
  have hl := fun (K : Int32 → Int32 → rc_S → Option (Int32 × rc_S)) => q_3_best_4 hK hR hV v K p (99999 - p) 0 0 (by omega)
  rw [← pq_fu p (by omega), show Int32.ofNat 0 = (0 : Int32) from rfl] at hl
  obtain ⟨b0, b1, b2, b3⟩ := pq_bst hV (v := v) p 0 0 (by omega) (by decide) (by decide) (fun _ => Or.inl rfl) (fun j hj => by omega)
  generalize pq_fd (fun j a => if a < g (63 + 2 * j) + 2 * g (64 + 2 * j) then g (63 + 2 * j) + 2 * g (64 + 2 * j) else a) 0 p 0 = B at hl b0 b1 b2 b3
  rw [f_X3_doesBestNotice, hl]
  by_cases hp : p = 0
  · subst hp
    refine ⟨0, ?_, iff_of_true rfl (fun j hj => by omega)⟩
    rw [pq_c1 hR, pq_v1 hV, if_pos (show Int32.ofNat 0 ≤ 0 by decide)]
  · have hz : ¬ Int32.ofNat p ≤ 0 := fun q => by have := (pq_le (by omega) (show 0 < 2147483648 by decide)).mp q; omega
    rw [pq_c1 hR, pq_v1 hV, if_neg hz, f_X3_doesPalateNotice]
    by_cases hv : v ≤ 0
    · refine ⟨0, ?_, iff_of_true rfl (fun j hj q => q.1 hv)⟩
      rw [if_pos hv, pq_bd, if_pos rfl]
    · by_cases hv2 : v ≤ 50 - 5 * B
      · refine ⟨0, ?_, iff_of_true rfl (fun j hj q => q.2 ?_)⟩
        · rw [if_neg hv, if_pos hv2, pq_bd, if_pos rfl]
        · have v1 := pq_vpp hV hj
          have v2 := pq_vps hV hj
          have w1 := pq_i0 v1.1
          have w2 : g (63 + 2 * j) ≤ 9 := by rw [Int32.le_iff_toInt_le]; exact v1.2
          have w3 := b3 j hj
          rcases v2 with e | e <;> rw [e] at w3 ⊢ <;> grind
      · refine ⟨1, ?_, iff_of_false (by decide) (fun q => ?_)⟩
        · rw [if_neg hv, if_neg hv2, pq_bd, if_neg (by decide)]
        · rcases b2 hv with e | ⟨j, hj, e⟩
          · refine q 0 (by omega) ⟨hv, fun z => hv2 ?_⟩
            have v1 := pq_vpp hV (show 0 < p by omega)
            have v2 := pq_vps hV (show 0 < p by omega)
            have w1 := pq_i0 v1.1
            have w2 : g (63 + 2 * 0) ≤ 9 := by rw [Int32.le_iff_toInt_le]; exact v1.2
            have w3 := b3 0 (by omega)
            rw [e] at w3 ⊢
            rcases v2 with e2 | e2 <;> rw [e2] at w3 z <;> grind
          · exact q j hj ⟨hv, fun z => hv2 (by rw [e]; exact z)⟩
theorem q8_hidA (hX : pq_X rf x) (hR : pq_R σ (x + 2) g n p) (hV : pq_V g n p N) (hb : b < n) (h2 : g (16 + 6 * b) ≠ 0) {K : Int32 → rc_S → Option (Nat × Int32 × rc_S)} {D M : Nat} (hM : M ≤ 20) (hD : D ≤ M) (dU : pq_U g p (pq_pk g b D)) (dN : ∀ k, D < k → k ≤ M → ¬ pq_U g p (pq_pk g b k)) : ∀ (d i fu : Nat), i + d = D → f_X8_hiddenAgain_18 rf x (x + 2 + 7 + b) (Int32.ofNat M) K (fu + d + 1) (Int32.ofNat i) σ = K (Int32.ofNat D) σ := by
  have hKk := pq_xk hX
  intro d
  induction d with
  | zero =>
    intro i fu h1
    have hi : i = D := by omega
    subst hi
    rw [f_X8_hiddenAgain_18]
    by_cases he : M ≤ i
    · rw [if_pos ((pq_le (by omega) (by omega)).mpr he)]
    · obtain ⟨r, hr, hr2⟩ := q3_best (rf := rf) hKk hR hV (v := pq_pk g b (i + 1))
      rw [if_neg (fun q => he ((pq_le (by omega) (by omega)).mp q)), pq_s, q1_partk hR hV hb (by omega), pq_bd, pq_x1 hX, pq_k3 hKk, hr, pq_bd, if_neg (fun q => dN (i + 1) (by omega) (by omega) (hr2.mp q))]
  | succ d ih =>
    intro i fu h1
    have hU : ∀ k e, k + e = D → pq_U g p (pq_pk g b k) := by
      intro k e
      induction e generalizing k with
      | zero => intro hk; rw [show k = D by omega]; exact dU
      | succ e ihe => intro hk; exact pq_Um (pq_pkm hV hb h2 (by omega)) (ihe (k + 1) (by omega))
    obtain ⟨r, hr, hr2⟩ := q3_best (rf := rf) hKk hR hV (v := pq_pk g b (i + 1))
    rw [show fu + (d + 1) + 1 = (fu + d + 1) + 1 from rfl, f_X8_hiddenAgain_18, if_neg (fun q => by have := (pq_le (by omega) (by omega)).mp q; omega), pq_s, q1_partk hR hV hb (by omega), pq_bd, pq_x1 hX, pq_k3 hKk, hr, pq_bd, if_pos (hr2.mpr (hU (i + 1) d (by omega))), rc_lt]
    exact ih (i + 1) fu (by omega)

theorem q_hidden (hX : pq_X rf x) (hR : pq_R σ (x + 2) g n p) (hV : pq_V g n p N) (hg : σ (x + 308 + 1) = g) {u1 : Int32} : pq_Q (f_X8_hidden rf x u1 σ) (f_X9_hidden rf (x + 308) u1 σ) σ (x + 308) (fun k cd => (k = 0 ∧ cd = 0) ∨ (k = 2 ∧ cd = 1) ∨ (k = 4 ∧ cd = 2)) := by
  have hK := pq_xk hX
  have hM := pq_xm hX
  have h8 := pq_vn hV
  have h4 := pq_vp hV
  by_cases h1 : ¬ u1 < 0 ∧ u1 < g 0
  · obtain ⟨b, hb, rfl⟩ := pq_ub hV h1
    have hb8 : b < 8 := by omega
    by_cases h2 : g (16 + 6 * b) = 0
    · refine pq_Qm 4 2 (0 : Int32) 0 (by simp) (by simp) ?_ ?_
      · simp (disch := omega) only [f_X8_hidden, f_X8_unnoticed, f_X1_mostHailFor, f_X0_room, pq_bd, pq_ck, pq_bx, rc_lt, pq_i10, pq_i01, pq_x1 hX, pq_x2 hX, pq_x5 hX, pq_x6 hX, pq_x8 hX, pq_k0 hK, pq_k1 hK, pq_k3 hK, pq_k4 hK, pq_kp hK, pq_ks hK, q8_fi hX hR hV hb h1, h2, pq_bxk (show (2 : Nat) ≠ 0 by decide), pq_bxk (show (4 : Nat) ≠ 0 by decide), not_false_eq_true, not_true_eq_false, and_self, and_true, true_and, and_false, false_and, or_true, true_or, or_false, false_or, if_true, if_false, ↓reduceIte, Decidable.not_not, ne_eq, Int32.reduceLE, Int32.reduceLT, pq_nes, eq_self]
      · simp (disch := omega) only [f_X9_hidden, f_X9_fails, pq_m1 hM, pq_bd, pq_ck, pq_bx, rc_lt, pq_i10, pq_i01, pq_upE, pq_udE, pq_uu, pq_gu hg, q9_fi hM hg hV hb h1, h2, not_false_eq_true, not_true_eq_false, and_self, and_true, true_and, and_false, false_and, or_true, true_or, or_false, false_or, if_true, if_false, ↓reduceIte, Decidable.not_not, ne_eq, Int32.reduceLE, Int32.reduceLT, pq_nes, eq_self]
    · have hfi : f_X8_filled rf x (Int32.ofNat b) σ = some (0, x + 2 + 7 + b, σ) := by rw [q8_fi hX hR hV hb h1, if_neg h2]
      have hf9 : f_X9_filled rf (x + 308) (Int32.ofNat b) σ = some (0, σ) := by rw [q9_fi hM hg hV hb h1, if_neg h2]
      by_cases h3 : pq_ns g p (pq_P g b) = 0
      · obtain ⟨Hh, L, T, a1, a2, -, e1, e2, -⟩ := pq_bN hV hb
        obtain ⟨Bk, hB, e3⟩ := pq_natL (n := 9) (pq_v2 hV).1 (pq_v2 hV).2 (by decide)
        have hU0 : pq_U g p (pq_pk g b 0) := by rw [pq_pk0]; exact (pq_nsU h4).mp h3
        have eR : (20 : Int32) - g (16 + 6 * b) = Int32.ofNat (20 - L) := by rw [e2, Int32.ofNat_sub _ _ a2]; rfl
        have hm : (if g 2 < 20 - g (16 + 6 * b) then g 2 else 20 - g (16 + 6 * b)) = Int32.ofNat (if Bk < 20 - L then Bk else 20 - L) := by
          rw [eR, e3]
          by_cases hc : Bk < 20 - L
          · rw [if_pos hc, if_pos ((pq_lt (by omega) (by omega)).mpr hc)]
          · rw [if_neg hc, if_neg (fun q => hc ((pq_lt (by omega) (by omega)).mp q))]
        have hM20 : (if Bk < 20 - L then Bk else 20 - L) ≤ 20 := by split <;> omega
        generalize hMM : (if Bk < 20 - L then Bk else 20 - L) = M at hm hM20
        obtain ⟨D, d1, d2, d3⟩ := pq_top g p b hU0 M
        have hl8 := q8_hid hX hR hV hb (K := fun v3_8 σ_9 => some (0, (0 : Int32), σ_9)) rfl hM20 d2 d3 M (99999 - M) d1 (Nat.le_refl M)
        rw [← pq_fu M (by omega)] at hl8
        have h9 := fun v => q9_hid hM (pq_gu (k := 0) (v := v) hg) hV hb hM20 d2 d3 M (99999 - M) d1 (Nat.le_refl M)
        rw [← pq_fu M (by omega)] at h9
        have hm9 : (if g 2 ≤ 20 - g (16 + 6 * b) then g 2 else 20 - g (16 + 6 * b)) = Int32.ofNat M := by
          rw [← hm]; grind
        refine pq_QmE (Int32.ofNat D) (by simp) ?_ ?_
        · simp (disch := omega) only [f_X8_hidden, f_X8_unnoticed, f_X1_mostHailFor, f_X0_room, pq_bd, pq_ck, pq_bx, rc_lt, pq_i10, pq_i01, pq_x1 hX, pq_x2 hX, pq_x5 hX, pq_x6 hX, pq_x8 hX, pq_k0 hK, pq_k1 hK, pq_k3 hK, pq_k4 hK, pq_kp hK, pq_ks hK,  hfi, q1_part hR hV hb, q_3_noses hK hR hV, h3, pq_c2 hR, pq_b1 hR, hm, not_false_eq_true, not_true_eq_false, and_self, and_true, true_and, and_false, false_and, or_true, true_or, or_false, false_or, if_true, if_false, ↓reduceIte, Decidable.not_not, ne_eq, Int32.reduceLE, Int32.reduceLT, pq_nes, eq_self]
          exact hl8
        · simp (disch := omega) only [f_X9_hidden, f_X9_fails, pq_m1 hM, pq_bd, pq_ck, pq_bx, rc_lt, pq_i10, pq_i01, pq_upE, pq_udE, pq_uu, pq_gu hg,  hf9, q9_part hM (pq_gu hg), q_9_noses hM (pq_gu hg) hV, h3, q9_of1 hM (pq_gu hg), not_false_eq_true, not_true_eq_false, and_self, and_true, true_and, and_false, false_and, or_true, true_or, or_false, false_or, if_true, if_false, ↓reduceIte, Decidable.not_not, ne_eq, Int32.reduceLE, Int32.reduceLT, pq_nes, eq_self]
          by_cases hc : g 2 ≤ 20 - g (16 + 6 * b)
          · rw [if_pos hc] at hm9 ⊢
            rw [hm9, h9]
          · rw [if_neg hc] at hm9 ⊢
            rw [hm9, h9]
      · refine pq_Qm 4 2 (0 : Int32) 0 (by simp) (by simp) ?_ ?_
        · simp (disch := omega) only [f_X8_hidden, f_X8_unnoticed, f_X1_mostHailFor, f_X0_room, pq_bd, pq_ck, pq_bx, rc_lt, pq_i10, pq_i01, pq_x1 hX, pq_x2 hX, pq_x5 hX, pq_x6 hX, pq_x8 hX, pq_k0 hK, pq_k1 hK, pq_k3 hK, pq_k4 hK, pq_kp hK, pq_ks hK, hfi, q1_part hR hV hb, q_3_noses hK hR hV, if_neg h3, h3, pq_bxk (show (2 : Nat) ≠ 0 by decide), pq_bxk (show (4 : Nat) ≠ 0 by decide), not_false_eq_true, not_true_eq_false, and_self, and_true, true_and, and_false, false_and, or_true, true_or, or_false, false_or, if_true, if_false, ↓reduceIte, Decidable.not_not, ne_eq, Int32.reduceLE, Int32.reduceLT, pq_nes, eq_self]
        · simp (disch := omega) only [f_X9_hidden, f_X9_fails, pq_m1 hM, pq_bd, pq_ck, pq_bx, rc_lt, pq_i10, pq_i01, pq_upE, pq_udE, pq_uu, pq_gu hg, hf9, q9_part hM (pq_gu hg), q_9_noses hM (pq_gu hg) hV, h3, not_false_eq_true, not_true_eq_false, and_self, and_true, true_and, and_false, false_and, or_true, true_or, or_false, false_or, if_true, if_false, ↓reduceIte, Decidable.not_not, ne_eq, Int32.reduceLE, Int32.reduceLT, pq_nes, eq_self]
  · refine pq_Qm 2 1 (0 : Int32) 0 (by simp) (by simp) ?_ ?_
    · simp (disch := omega) only [f_X8_hidden, f_X8_unnoticed, f_X1_mostHailFor, f_X0_room, pq_bd, pq_ck, pq_bx, rc_lt, pq_i10, pq_i01, pq_x1 hX, pq_x2 hX, pq_x5 hX, pq_x6 hX, pq_x8 hX, pq_k0 hK, pq_k1 hK, pq_k3 hK, pq_k4 hK, pq_kp hK, pq_ks hK, f_X8_filled, q8_ex0 hX hR h1, pq_bxk (show (2 : Nat) ≠ 0 by decide), pq_bxk (show (4 : Nat) ≠ 0 by decide), not_false_eq_true, not_true_eq_false, and_self, and_true, true_and, and_false, false_and, or_true, true_or, or_false, false_or, if_true, if_false, ↓reduceIte, Decidable.not_not, ne_eq, Int32.reduceLE, Int32.reduceLT, pq_nes, eq_self]
    · simp (disch := omega) only [f_X9_hidden, f_X9_fails, pq_m1 hM, pq_bd, pq_ck, pq_bx, rc_lt, pq_i10, pq_i01, pq_upE, pq_udE, pq_uu, pq_gu hg, q9_fi0 hM hg hV h1, not_false_eq_true, not_true_eq_false, and_self, and_true, true_and, and_false, false_and, or_true, true_or, or_false, false_or, if_true, if_false, ↓reduceIte, Decidable.not_not, ne_eq, Int32.reduceLE, Int32.reduceLT, pq_nes, eq_self]
theorem q_hiddenAgain (hX : pq_X rf x) (hR : pq_R σ (x + 2) g n p) (hV : pq_V g n p N) (hg : σ (x + 308 + 1) = g) {u1 : Int32} : pq_Q (f_X8_hiddenAgain rf x u1 σ) (f_X9_hiddenAgain rf (x + 308) u1 σ) σ (x + 308) (fun k cd => (k = 0 ∧ cd = 0) ∨ (k = 2 ∧ cd = 1) ∨ (k = 4 ∧ cd = 2)) := by
  have hK := pq_xk hX
  have hM := pq_xm hX
  have h8 := pq_vn hV
  have h4 := pq_vp hV
  by_cases h1 : ¬ u1 < 0 ∧ u1 < g 0
  · obtain ⟨b, hb, rfl⟩ := pq_ub hV h1
    have hb8 : b < 8 := by omega
    by_cases h2 : g (16 + 6 * b) = 0
    · refine pq_Qm 4 2 (0 : Int32) 0 (by simp) (by simp) ?_ ?_
      · simp (disch := omega) only [f_X8_hiddenAgain, f_X8_unnoticed, f_X1_mostHailFor, f_X0_room, pq_bd, pq_ck, pq_bx, rc_lt, pq_i10, pq_i01, pq_x1 hX, pq_x2 hX, pq_x5 hX, pq_x6 hX, pq_x8 hX, pq_k0 hK, pq_k1 hK, pq_k3 hK, pq_k4 hK, pq_kp hK, pq_ks hK, q8_fi hX hR hV hb h1, h2, pq_bxk (show (2 : Nat) ≠ 0 by decide), pq_bxk (show (4 : Nat) ≠ 0 by decide), not_false_eq_true, not_true_eq_false, and_self, and_true, true_and, and_false, false_and, or_true, true_or, or_false, false_or, if_true, if_false, ↓reduceIte, Decidable.not_not, ne_eq, Int32.reduceLE, Int32.reduceLT, pq_nes, eq_self]
      · simp (disch := omega) only [f_X9_hiddenAgain, f_X9_hidden, f_X9_fails, pq_m1 hM, pq_bd, pq_ck, pq_bx, rc_lt, pq_i10, pq_i01, pq_upE, pq_udE, pq_uu, pq_gu hg, q9_fi hM hg hV hb h1, h2, not_false_eq_true, not_true_eq_false, and_self, and_true, true_and, and_false, false_and, or_true, true_or, or_false, false_or, if_true, if_false, ↓reduceIte, Decidable.not_not, ne_eq, Int32.reduceLE, Int32.reduceLT, pq_nes, eq_self]
    · have hfi : f_X8_filled rf x (Int32.ofNat b) σ = some (0, x + 2 + 7 + b, σ) := by rw [q8_fi hX hR hV hb h1, if_neg h2]
      have hf9 : f_X9_filled rf (x + 308) (Int32.ofNat b) σ = some (0, σ) := by rw [q9_fi hM hg hV hb h1, if_neg h2]
      by_cases h3 : pq_ns g p (pq_P g b) = 0
      · obtain ⟨Hh, L, T, a1, a2, -, e1, e2, -⟩ := pq_bN hV hb
        obtain ⟨Bk, hB, e3⟩ := pq_natL (n := 9) (pq_v2 hV).1 (pq_v2 hV).2 (by decide)
        have hU0 : pq_U g p (pq_pk g b 0) := by rw [pq_pk0]; exact (pq_nsU h4).mp h3
        have eR : (20 : Int32) - g (16 + 6 * b) = Int32.ofNat (20 - L) := by rw [e2, Int32.ofNat_sub _ _ a2]; rfl
        have hm : (if g 2 < 20 - g (16 + 6 * b) then g 2 else 20 - g (16 + 6 * b)) = Int32.ofNat (if Bk < 20 - L then Bk else 20 - L) := by
          rw [eR, e3]
          by_cases hc : Bk < 20 - L
          · rw [if_pos hc, if_pos ((pq_lt (by omega) (by omega)).mpr hc)]
          · rw [if_neg hc, if_neg (fun q => hc ((pq_lt (by omega) (by omega)).mp q))]
        have hM20 : (if Bk < 20 - L then Bk else 20 - L) ≤ 20 := by split <;> omega
        generalize hMM : (if Bk < 20 - L then Bk else 20 - L) = M at hm hM20
        obtain ⟨D, d1, d2, d3⟩ := pq_top g p b hU0 M
        have hl8 := fun (K : Int32 → rc_S → Option (Nat × Int32 × rc_S)) => q8_hidA hX hR hV hb h2 (K := K) hM20 d1 d2 d3 D 0 (99999 - D) (by omega)
        rw [← pq_fu D (by omega)] at hl8
        have h9 := fun v => q9_hid hM (pq_gu (k := 0) (v := v) hg) hV hb hM20 d2 d3 M (99999 - M) d1 (Nat.le_refl M)
        rw [← pq_fu M (by omega)] at h9
        have hm9 : (if g 2 ≤ 20 - g (16 + 6 * b) then g 2 else 20 - g (16 + 6 * b)) = Int32.ofNat M := by
          rw [← hm]; grind
        refine pq_QmE (Int32.ofNat D) (by simp) ?_ ?_
        · simp (disch := omega) only [f_X8_hiddenAgain, f_X8_unnoticed, f_X1_mostHailFor, f_X0_room, pq_bd, pq_ck, pq_bx, rc_lt, pq_i10, pq_i01, pq_x1 hX, pq_x2 hX, pq_x5 hX, pq_x6 hX, pq_x8 hX, pq_k0 hK, pq_k1 hK, pq_k3 hK, pq_k4 hK, pq_kp hK, pq_ks hK,  hfi, q1_part hR hV hb, q_3_noses hK hR hV, h3, pq_c2 hR, pq_b1 hR, hm, not_false_eq_true, not_true_eq_false, and_self, and_true, true_and, and_false, false_and, or_true, true_or, or_false, false_or, if_true, if_false, ↓reduceIte, Decidable.not_not, ne_eq, Int32.reduceLE, Int32.reduceLT, pq_nes, eq_self]
          exact hl8 _
        · simp (disch := omega) only [f_X9_hiddenAgain, f_X9_hidden, f_X9_fails, pq_m1 hM, pq_bd, pq_ck, pq_bx, rc_lt, pq_i10, pq_i01, pq_upE, pq_udE, pq_uu, pq_gu hg,  hf9, q9_part hM (pq_gu hg), q_9_noses hM (pq_gu hg) hV, h3, q9_of1 hM (pq_gu hg), not_false_eq_true, not_true_eq_false, and_self, and_true, true_and, and_false, false_and, or_true, true_or, or_false, false_or, if_true, if_false, ↓reduceIte, Decidable.not_not, ne_eq, Int32.reduceLE, Int32.reduceLT, pq_nes, eq_self]
          by_cases hc : g 2 ≤ 20 - g (16 + 6 * b)
          · rw [if_pos hc] at hm9 ⊢
            rw [hm9, h9, pq_bd]
          · rw [if_neg hc] at hm9 ⊢
            rw [hm9, h9, pq_bd]
      · refine pq_Qm 4 2 (0 : Int32) 0 (by simp) (by simp) ?_ ?_
        · simp (disch := omega) only [f_X8_hiddenAgain, f_X8_unnoticed, f_X1_mostHailFor, f_X0_room, pq_bd, pq_ck, pq_bx, rc_lt, pq_i10, pq_i01, pq_x1 hX, pq_x2 hX, pq_x5 hX, pq_x6 hX, pq_x8 hX, pq_k0 hK, pq_k1 hK, pq_k3 hK, pq_k4 hK, pq_kp hK, pq_ks hK, hfi, q1_part hR hV hb, q_3_noses hK hR hV, if_neg h3, h3, pq_bxk (show (2 : Nat) ≠ 0 by decide), pq_bxk (show (4 : Nat) ≠ 0 by decide), not_false_eq_true, not_true_eq_false, and_self, and_true, true_and, and_false, false_and, or_true, true_or, or_false, false_or, if_true, if_false, ↓reduceIte, Decidable.not_not, ne_eq, Int32.reduceLE, Int32.reduceLT, pq_nes, eq_self]
        · simp (disch := omega) only [f_X9_hiddenAgain, f_X9_hidden, f_X9_fails, pq_m1 hM, pq_bd, pq_ck, pq_bx, rc_lt, pq_i10, pq_i01, pq_upE, pq_udE, pq_uu, pq_gu hg, hf9, q9_part hM (pq_gu hg), q_9_noses hM (pq_gu hg) hV, h3, not_false_eq_true, not_true_eq_false, and_self, and_true, true_and, and_false, false_and, or_true, true_or, or_false, false_or, if_true, if_false, ↓reduceIte, Decidable.not_not, ne_eq, Int32.reduceLE, Int32.reduceLT, pq_nes, eq_self]
  · refine pq_Qm 2 1 (0 : Int32) 0 (by simp) (by simp) ?_ ?_
    · simp (disch := omega) only [f_X8_hiddenAgain, f_X8_unnoticed, f_X1_mostHailFor, f_X0_room, pq_bd, pq_ck, pq_bx, rc_lt, pq_i10, pq_i01, pq_x1 hX, pq_x2 hX, pq_x5 hX, pq_x6 hX, pq_x8 hX, pq_k0 hK, pq_k1 hK, pq_k3 hK, pq_k4 hK, pq_kp hK, pq_ks hK, f_X8_filled, q8_ex0 hX hR h1, pq_bxk (show (2 : Nat) ≠ 0 by decide), pq_bxk (show (4 : Nat) ≠ 0 by decide), not_false_eq_true, not_true_eq_false, and_self, and_true, true_and, and_false, false_and, or_true, true_or, or_false, false_or, if_true, if_false, ↓reduceIte, Decidable.not_not, ne_eq, Int32.reduceLE, Int32.reduceLT, pq_nes, eq_self]
    · simp (disch := omega) only [f_X9_hiddenAgain, f_X9_hidden, f_X9_fails, pq_m1 hM, pq_bd, pq_ck, pq_bx, rc_lt, pq_i10, pq_i01, pq_upE, pq_udE, pq_uu, pq_gu hg, q9_fi0 hM hg hV h1, not_false_eq_true, not_true_eq_false, and_self, and_true, true_and, and_false, false_and, or_true, true_or, or_false, false_or, if_true, if_false, ↓reduceIte, Decidable.not_not, ne_eq, Int32.reduceLE, Int32.reduceLT, pq_nes, eq_self]
def pq_ca (g : Nat → Int32) (r : Int32) : Nat → Int32 → Int32 := fun b a => if g (15 + 6 * b) = r ∧ g (16 + 6 * b) = 0 then (if a ≤ 20 then 0 else a - 20) else a
theorem q_9_caught_9 (hM : pq_M rf m) (hg : σ (m + 1) = g) (hV : pq_V g n p N) (r s : Int32) (K : Int32 → Int32 → rc_S → Option (Int32 × rc_S)) : ∀ (d fu i : Nat) (acc : Int32), i + d = n → f_X9_caught_9 rf m r s K (fu + d + 1) acc (Int32.ofNat i) σ = K (pq_fd (pq_ca g r) i d acc) (Int32.ofNat n) σ := by
  have h8 := pq_vn hV
  intro d
  induction d with
  | zero =>
    intro fu i acc h
    have hi : i = n := by omega
    subst hi
    rw [f_X9_caught_9]
    simp (disch := omega) only [pq_m1 hM, hg, pq_v0 hV, pq_le, Nat.le_refl, if_true, pq_fd]
  | succ d ih =>
    intro fu i acc h
    have hni : (n ≤ i) = False := by simp; omega
    rw [show fu + (d + 1) + 1 = (fu + d + 1) + 1 from rfl, f_X9_caught_9]
    simp (disch := omega) only [pq_m1 hM, hg, pq_v0 hV, pq_le, hni, if_false, pq_in, pq_cl, pq_ck, pq_bd, rc_lt, pq_s, pq_fd, q9_of0 hM hg, q9_of1 hM hg, pq_ca]
    by_cases hc : g (15 + 6 * i) = r
    · by_cases h2 : g (16 + 6 * i) = 0
      · by_cases h3 : acc ≤ 20
        · rw [if_pos hc, if_pos h2, if_pos h3, if_pos ⟨hc, h2⟩, if_pos h3, ih fu (i + 1) _ (by omega)]
        · rw [if_pos hc, if_pos h2, if_neg h3, if_pos ⟨hc, h2⟩, if_neg h3, ih fu (i + 1) _ (by omega)]
      · rw [if_pos hc, if_neg h2, if_neg (fun z => h2 z.2), ih fu (i + 1) _ (by omega)]
    · rw [if_neg hc, if_neg (fun z => hc z.1), ih fu (i + 1) _ (by omega)]
/-- what is caught: as much as comes, but no more than the empty barrels hold -/
theorem pq_cae {r : Int32} (W : Nat) (hW : W ≤ 1000) : ∀ (d i E : Nat), ∃ E', E ≤ E' ∧ E' ≤ E + d ∧ pq_fd (fun b a => if g (15 + 6 * b) = r ∧ g (16 + 6 * b) = 0 then a + 1 else a) i d (Int32.ofNat E) = Int32.ofNat E' ∧ pq_fd (pq_ca g r) i d (Int32.ofNat (W - 20 * E)) = Int32.ofNat (W - 20 * E') := by
  intro d
  induction d with
  | zero => intro i E; exact ⟨E, by omega, by omega, rfl, rfl⟩
  | succ d ih =>
    intro i E
    by_cases hc : g (15 + 6 * i) = r ∧ g (16 + 6 * i) = 0
    · obtain ⟨E', h1, h2, h3, h4⟩ := ih (i + 1) (E + 1)
      refine ⟨E', by omega, by omega, ?_, ?_⟩
      · rw [pq_fd, if_pos hc, pq_s, h3]
      · rw [pq_fd, pq_ca, if_pos hc, ← h4]
        congr 1
        by_cases h5 : W - 20 * E ≤ 20
        · rw [if_pos (show Int32.ofNat (W - 20 * E) ≤ 20 from (pq_le (by omega) (show 20 < 2147483648 by decide)).mpr h5), show W - 20 * (E + 1) = 0 by omega]; rfl
        · rw [if_neg (show ¬ Int32.ofNat (W - 20 * E) ≤ 20 from fun q => h5 ((pq_le (by omega) (show 20 < 2147483648 by decide)).mp q)), show W - 20 * (E + 1) = W - 20 * E - 20 by omega, Int32.ofNat_sub (W - 20 * E) 20 (by omega)]; rfl
    · obtain ⟨E', h1, h2, h3, h4⟩ := ih (i + 1) E
      refine ⟨E', by omega, by omega, ?_, ?_⟩
      · rw [pq_fd, if_neg hc, h3]
      · rw [pq_fd, pq_ca, if_neg hc, h4]
def pq_cg (g : Nat → Int32) (n : Nat) (s : Int32) (r : Nat) : Int32 := (Int32.ofNat r + 1) * s - pq_fd (pq_ca g (Int32.ofNat r)) 0 n ((Int32.ofNat r + 1) * s)
theorem q9_caught (hM : pq_M rf m) (hg : σ (m + 1) = g) (hV : pq_V g n p N) {r : Nat} {s : Int32} : f_X9_caught rf m (Int32.ofNat r) s σ = some (pq_cg g n s r, σ) := by
  have h8 := pq_vn hV
  have hl := fun (K : Int32 → Int32 → rc_S → Option (Int32 × rc_S)) (W : Int32) => q_9_caught_9 hM hg hV (Int32.ofNat r) s K n (99999 - n) 0 W (by omega)
  rw [← pq_fu n (by omega), show Int32.ofNat 0 = (0 : Int32) from rfl] at hl
  rw [f_X9_caught, rc_lt, hl]; rfl
theorem pq_9 {u : Int32} (h : ¬ u < 1 ∧ ¬ 9 < u) : ∃ s, 1 ≤ s ∧ s ≤ 9 ∧ u = Int32.ofNat s := by
  have a : ¬ u < 0 := by grind
  have b : u < Int32.ofNat 10 := by show u < 10; grind
  obtain ⟨s, hs, e⟩ := pq_nat a b (by decide)
  refine ⟨s, ?_, by omega, e⟩
  by_cases h0 : s = 0
  · subst h0; subst e; exact absurd (by decide) h.1
  · omega
/-- one roof, both ways -/
theorem pq_cg2 (hV : pq_V g n p N) {r s : Nat} (hr : r < 4) (hs : s ≤ 9) : (if 20 * pq_fd (fun b a => if g (15 + 6 * b) = Int32.ofNat r ∧ g (16 + 6 * b) = 0 then a + 1 else a) 0 n 0 < (Int32.ofNat r + 1) * Int32.ofNat s then 20 * pq_fd (fun b a => if g (15 + 6 * b) = Int32.ofNat r ∧ g (16 + 6 * b) = 0 then a + 1 else a) 0 n 0 else (Int32.ofNat r + 1) * Int32.ofNat s) = pq_cg g n (Int32.ofNat s) r := by
  have h8 := pq_vn hV
  have hb : (r + 1) * s ≤ 4 * 9 := Nat.mul_le_mul (by omega) hs
  have e : (Int32.ofNat r + 1) * Int32.ofNat s = Int32.ofNat ((r + 1) * s) := by rw [pq_s, Int32.ofNat_mul]
  obtain ⟨E, h1, h2, h3, h4⟩ := pq_cae (g := g) (r := Int32.ofNat r) ((r + 1) * s) (by omega) n 0 0
  rw [show Int32.ofNat 0 = (0 : Int32) from rfl] at h3
  rw [show (r + 1) * s - 20 * 0 = (r + 1) * s by omega] at h4
  unfold pq_cg
  rw [e, h3, h4, ← Int32.ofNat_sub _ _ (by omega), show (20 : Int32) * Int32.ofNat E = Int32.ofNat (20 * E) by rw [Int32.ofNat_mul]; rfl]
  by_cases hc : 20 * E < (r + 1) * s
  · rw [if_pos ((pq_lt (by omega) (by omega)).mpr hc), show (r + 1) * s - ((r + 1) * s - 20 * E) = 20 * E by omega]
  · rw [if_neg (fun q => hc ((pq_lt (by omega) (by omega)).mp q)), show (r + 1) * s - ((r + 1) * s - 20 * E) = (r + 1) * s by omega]
theorem q1_into (hK : pq_K rf c) (hR : pq_R σ c g n p) (hV : pq_V g n p N) {s : Nat} (hs : s ≤ 9) (K : Int32 → Int32 → rc_S → Option (Int32 × rc_S)) : ∀ (d fu i : Nat) (acc : Int32), i + d = 4 → f_X1_litresIntoBarrels_4 rf c (Int32.ofNat s) K (fu + d + 1) acc (Int32.ofNat i) σ = K (pq_fd (fun r a => a + pq_cg g n (Int32.ofNat s) r) i d acc) (Int32.ofNat 4) σ := by
  intro d
  induction d with
  | zero =>
    intro fu i acc h
    have hi : i = 4 := by omega
    subst hi
    rw [f_X1_litresIntoBarrels_4, if_pos (by decide), pq_fd]
  | succ d ih =>
    intro fu i acc h
    have hni : (4 ≤ i) = False := by simp; omega
    rw [show fu + (d + 1) + 1 = (fu + d + 1) + 1 from rfl, f_X1_litresIntoBarrels_4]
    simp (disch := omega) only [pq_le4, hni, if_false, f_X8_litresOnRoof, q_1_emptyUnder hK hR hV, pq_bd, rc_lt, pq_s, pq_fd]
    rw [ih fu (i + 1) _ (by omega)]
    have e := pq_cg2 hV (r := i) (s := s) (by omega) hs
    rw [pq_s] at e
    rw [e]
theorem q1_catch (hK : pq_K rf c) (hR : pq_R σ c g n p) (hV : pq_V g n p N) {s : Nat} (hs : s ≤ 9) : f_X1_litresIntoBarrels rf c (Int32.ofNat s) σ = some (pq_cg g n (Int32.ofNat s) 0 + pq_cg g n (Int32.ofNat s) 1 + pq_cg g n (Int32.ofNat s) 2 + pq_cg g n (Int32.ofNat s) 3, σ) := by
  have e := q1_into (rf := rf) hK hR hV hs (fun v2_6 v3_7 σ_8 => some (v2_6, σ_8)) 4 99995 0 0 (by omega)
  rw [f_X1_litresIntoBarrels, pq_fu 4 (by omega)]
  refine e.trans ?_
  simp only [pq_fd, Int32.zero_add]
theorem q8_roofs {s : Int32} (K : Int32 → Int32 → rc_S → Option (Int32 × rc_S)) : ∀ (d fu i : Nat) (acc : Int32), i + d = 4 → f_X8_litresOnRoofs_4 rf s K (fu + d + 1) acc (Int32.ofNat i) σ = K (pq_fd (fun r a => a + (Int32.ofNat r + 1) * s) i d acc) (Int32.ofNat 4) σ := by
  intro d
  induction d with
  | zero =>
    intro fu i acc h
    have hi : i = 4 := by omega
    subst hi
    rw [f_X8_litresOnRoofs_4, if_pos (by decide), pq_fd]
  | succ d ih =>
    intro fu i acc h
    have hni : (4 ≤ i) = False := by simp; omega
    rw [show fu + (d + 1) + 1 = (fu + d + 1) + 1 from rfl, f_X8_litresOnRoofs_4]
    simp (disch := omega) only [pq_le4, hni, if_false, f_X8_litresOnRoof, pq_bd, rc_lt, pq_s, pq_fd]
    rw [ih fu (i + 1) _ (by omega)]
    simp only [pq_s]
theorem pq_10s (s : Int32) : 0 + (Int32.ofNat 0 + 1) * s + (Int32.ofNat (0 + 1) + 1) * s + (Int32.ofNat (0 + 1 + 1) + 1) * s + (Int32.ofNat (0 + 1 + 1 + 1) + 1) * s = 10 * s := by
  show 0 + (0 + 1) * s + (1 + 1) * s + (2 + 1) * s + (3 + 1) * s = 10 * s
  grind
theorem q8_allRoofs {s : Int32} : f_X8_litresOnRoofs rf s σ = some (10 * s, σ) := by
  have e := q8_roofs (rf := rf) (σ := σ) (s := s) (fun v1_5 v2_6 σ_7 => some (v1_5, σ_7)) 4 99995 0 0 (by omega)
  rw [f_X8_litresOnRoofs, pq_fu 4 (by omega)]
  refine e.trans ?_
  simp only [pq_fd]
  rw [pq_10s]
theorem q9_caughtL (hM : pq_M rf m) (hg : σ (m + 1) = g) (hV : pq_V g n p N) {s : Int32} : f_X9_caught rf m 0 s σ = some (pq_cg g n s 0, σ) ∧ f_X9_caught rf m 1 s σ = some (pq_cg g n s 1, σ) ∧ f_X9_caught rf m 2 s σ = some (pq_cg g n s 2, σ) ∧ f_X9_caught rf m 3 s σ = some (pq_cg g n s 3, σ) := ⟨q9_caught hM hg hV (r := 0), q9_caught hM hg hV (r := 1), q9_caught hM hg hV (r := 2), q9_caught hM hg hV (r := 3)⟩
theorem q_wouldCatch (hX : pq_X rf x) (hR : pq_R σ (x + 2) g n p) (hV : pq_V g n p N) (hg : σ (x + 308 + 1) = g) {u1 : Int32} : pq_Q (f_X8_wouldCatch rf x u1 σ) (f_X9_wouldCatch rf (x + 308) u1 σ) σ (x + 308) (fun k cd => (k = 0 ∧ cd = 0) ∨ (k = 3 ∧ cd = 1)) := by
  have hK := pq_xk hX
  have hM := pq_xm hX
  have h8 := pq_vn hV
  have h4 := pq_vp hV
  by_cases h1 : ¬ u1 < 1 ∧ ¬ 9 < u1
  · obtain ⟨s, s1, s9, rfl⟩ := pq_9 h1
    refine pq_QmE (pq_cg g n (Int32.ofNat s) 0 + pq_cg g n (Int32.ofNat s) 1 + pq_cg g n (Int32.ofNat s) 2 + pq_cg g n (Int32.ofNat s) 3) (by simp) ?_ ?_
    · simp (disch := omega) only [f_X8_wouldCatch, q8_out, q1_catch hK hR hV, q8_allRoofs, pq_bd, pq_ck, pq_bx, rc_lt, pq_i10, pq_i01, pq_x1 hX, pq_x2 hX, pq_x5 hX, pq_x6 hX, pq_x8 hX, pq_k0 hK, pq_k1 hK, pq_k3 hK, pq_k4 hK, pq_kp hK, pq_ks hK, if_pos h1, not_false_eq_true, not_true_eq_false, and_self, and_true, true_and, and_false, false_and, or_true, true_or, or_false, false_or, if_true, if_false, ↓reduceIte, Decidable.not_not, ne_eq, Int32.reduceLE, Int32.reduceLT, pq_nes, eq_self]
    · simp (disch := omega) only [f_X9_wouldLose, f_X9_wouldCatch, q9_in, q9_caughtL hM (pq_gu hg) hV, pq_bd, pq_ck, pq_bx, rc_lt, pq_i10, pq_i01, pq_upE, pq_udE, pq_uu, pq_gu hg, if_pos h1, not_false_eq_true, not_true_eq_false, and_self, and_true, true_and, and_false, false_and, or_true, true_or, or_false, false_or, if_true, if_false, ↓reduceIte, Decidable.not_not, ne_eq, Int32.reduceLE, Int32.reduceLT, pq_nes, eq_self]
  · refine pq_Qm 3 1 (0 : Int32) 0 (by simp) (by simp) ?_ ?_
    · simp (disch := omega) only [f_X8_wouldCatch, q8_out, q1_catch hK hR hV, q8_allRoofs, pq_bd, pq_ck, pq_bx, rc_lt, pq_i10, pq_i01, pq_x1 hX, pq_x2 hX, pq_x5 hX, pq_x6 hX, pq_x8 hX, pq_k0 hK, pq_k1 hK, pq_k3 hK, pq_k4 hK, pq_kp hK, pq_ks hK, if_neg h1, not_false_eq_true, not_true_eq_false, and_self, and_true, true_and, and_false, false_and, or_true, true_or, or_false, false_or, if_true, if_false, ↓reduceIte, Decidable.not_not, ne_eq, Int32.reduceLE, Int32.reduceLT, pq_nes, eq_self]
    · simp (disch := omega) only [f_X9_wouldLose, f_X9_wouldCatch, q9_in, q9_caughtL hM (pq_gu hg) hV, pq_bd, pq_ck, pq_bx, rc_lt, pq_i10, pq_i01, pq_upE, pq_udE, pq_uu, pq_gu hg, if_neg h1, not_false_eq_true, not_true_eq_false, and_self, and_true, true_and, and_false, false_and, or_true, true_or, or_false, false_or, if_true, if_false, ↓reduceIte, Decidable.not_not, ne_eq, Int32.reduceLE, Int32.reduceLT, pq_nes, eq_self]
theorem q_wouldLose (hX : pq_X rf x) (hR : pq_R σ (x + 2) g n p) (hV : pq_V g n p N) (hg : σ (x + 308 + 1) = g) {u1 : Int32} : pq_Q (f_X8_wouldLose rf x u1 σ) (f_X9_wouldLose rf (x + 308) u1 σ) σ (x + 308) (fun k cd => (k = 0 ∧ cd = 0) ∨ (k = 3 ∧ cd = 1)) := by
  have hK := pq_xk hX
  have hM := pq_xm hX
  have h8 := pq_vn hV
  have h4 := pq_vp hV
  by_cases h1 : ¬ u1 < 1 ∧ ¬ 9 < u1
  · obtain ⟨s, s1, s9, rfl⟩ := pq_9 h1
    refine pq_QmE (10 * Int32.ofNat s - (pq_cg g n (Int32.ofNat s) 0 + pq_cg g n (Int32.ofNat s) 1 + pq_cg g n (Int32.ofNat s) 2 + pq_cg g n (Int32.ofNat s) 3)) (by simp) ?_ ?_
    · simp (disch := omega) only [f_X8_wouldLose, q8_out, q1_catch hK hR hV, q8_allRoofs, pq_bd, pq_ck, pq_bx, rc_lt, pq_i10, pq_i01, pq_x1 hX, pq_x2 hX, pq_x5 hX, pq_x6 hX, pq_x8 hX, pq_k0 hK, pq_k1 hK, pq_k3 hK, pq_k4 hK, pq_kp hK, pq_ks hK, if_pos h1, not_false_eq_true, not_true_eq_false, and_self, and_true, true_and, and_false, false_and, or_true, true_or, or_false, false_or, if_true, if_false, ↓reduceIte, Decidable.not_not, ne_eq, Int32.reduceLE, Int32.reduceLT, pq_nes, eq_self]
    · simp (disch := omega) only [f_X9_wouldLose, f_X9_wouldCatch, q9_in, q9_caughtL hM (pq_gu hg) hV, pq_bd, pq_ck, pq_bx, rc_lt, pq_i10, pq_i01, pq_upE, pq_udE, pq_uu, pq_gu hg, if_pos h1, not_false_eq_true, not_true_eq_false, and_self, and_true, true_and, and_false, false_and, or_true, true_or, or_false, false_or, if_true, if_false, ↓reduceIte, Decidable.not_not, ne_eq, Int32.reduceLE, Int32.reduceLT, pq_nes, eq_self]
  · refine pq_Qm 3 1 (0 : Int32) 0 (by simp) (by simp) ?_ ?_
    · simp (disch := omega) only [f_X8_wouldLose, q8_out, q1_catch hK hR hV, q8_allRoofs, pq_bd, pq_ck, pq_bx, rc_lt, pq_i10, pq_i01, pq_x1 hX, pq_x2 hX, pq_x5 hX, pq_x6 hX, pq_x8 hX, pq_k0 hK, pq_k1 hK, pq_k3 hK, pq_k4 hK, pq_kp hK, pq_ks hK, if_neg h1, not_false_eq_true, not_true_eq_false, and_self, and_true, true_and, and_false, false_and, or_true, true_or, or_false, false_or, if_true, if_false, ↓reduceIte, Decidable.not_not, ne_eq, Int32.reduceLE, Int32.reduceLT, pq_nes, eq_self]
    · simp (disch := omega) only [f_X9_wouldLose, f_X9_wouldCatch, q9_in, q9_caughtL hM (pq_gu hg) hV, pq_bd, pq_ck, pq_bx, rc_lt, pq_i10, pq_i01, pq_upE, pq_udE, pq_uu, pq_gu hg, if_neg h1, not_false_eq_true, not_true_eq_false, and_self, and_true, true_and, and_false, false_and, or_true, true_or, or_false, false_or, if_true, if_false, ↓reduceIte, Decidable.not_not, ne_eq, Int32.reduceLE, Int32.reduceLT, pq_nes, eq_self]
end PQQ6
