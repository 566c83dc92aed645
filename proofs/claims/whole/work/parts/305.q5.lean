theorem pq_dn0 : ∀ a, a < 73 → ∀ b, b < 9 → b ≠ 0 → FP.ddiv (FP.i2d (Int32.ofNat a)) (FP.i2d (Int32.ofNat b)) &&& 0x7fffffffffffffff ≤ 0x7ff0000000000000 := by decide +kernel
theorem pq_prN {h l : Nat} (hh : h ≤ 1000) (hl : l ≤ 1000) : pq_part (Int32.ofNat h) (Int32.ofNat l) = Int32.ofNat (if l = 0 then 0 else 100 * h / l) := by
  unfold pq_part
  by_cases h0 : l = 0
  · subst h0; rfl
  · have e : ¬ Int32.ofNat l = 0 := fun q => h0 ((pq_eq (by omega) (show 0 < 2147483648 by decide)).mp q)
    rw [if_neg e, if_neg h0, Int32.ofNat_div (by omega) (by omega), Int32.ofNat_mul]
    rfl
theorem pq_p100 {h l : Nat} (hh : h ≤ l) : (if l = 0 then 0 else 100 * h / l) ≤ 100 := by
  by_cases h0 : l = 0
  · simp [h0]
  · rw [if_neg h0]
    exact Nat.div_le_of_le_mul (by rw [Nat.mul_comm l]; exact Nat.mul_le_mul_left 100 hh)
theorem pq_tsN {T A : Nat} (hT : T ≤ 9) (hA : A ≤ 1000000) : pq_tst (Int32.ofNat T) (Int32.ofNat A) = Int32.ofNat (if T + A / 2 ≤ 9 then T + A / 2 else 9) := by
  have e : Int32.ofNat T + Int32.ofNat A / 2 = Int32.ofNat (T + A / 2) := by
    rw [Int32.ofNat_add, Int32.ofNat_div (by omega) (by omega)]; rfl
  unfold pq_tst
  rw [e]
  show (if Int32.ofNat (T + A / 2) ≤ Int32.ofNat 9 then Int32.ofNat (T + A / 2) else Int32.ofNat 9) = _
  by_cases h : T + A / 2 ≤ 9
  · rw [if_pos h, if_pos ((pq_le (by omega) (show 9 < 2147483648 by decide)).mpr h)]
  · rw [if_neg h, if_neg (fun q => h ((pq_le (by omega) (show 9 < 2147483648 by decide)).mp q))]
theorem pq_ntN {v P : Nat} (hv : v ≤ 9) (hP : P ≤ 100) : Int32.ofNat v * (100 - Int32.ofNat P) / 100 = Int32.ofNat (v * (100 - P) / 100) := by
  have hb : v * (100 - P) ≤ 9 * 100 := Nat.mul_le_mul hv (by omega)
  rw [Int32.ofNat_div (by omega) (by omega), Int32.ofNat_mul, Int32.ofNat_sub _ _ hP]; rfl
section PQQ5
variable {rf : rc_F} {σ : rc_S} {c m x : Nat} {g : Nat → Int32} {n p N b : Nat}
/-- the numbers of a barrel, as natural numbers -/
theorem pq_bN (hV : pq_V g n p N) (hb : b < n) : ∃ H L T, H ≤ L ∧ L ≤ 20 ∧ T ≤ 9 ∧ g (17 + 6 * b) = Int32.ofNat H ∧ g (16 + 6 * b) = Int32.ofNat L ∧ g (19 + 6 * b) = Int32.ofNat T := by
  have a1 := pq_vh hV hb
  have a2 := pq_vt hV hb
  obtain ⟨L, hL, e1⟩ := pq_natL (n := 20) (Int.le_trans a1.1 a1.2.1) a1.2.2 (by decide)
  obtain ⟨H, hH, e2⟩ := pq_natL (n := 20) a1.1 (Int.le_trans a1.2.1 a1.2.2) (by decide)
  obtain ⟨T, hT, e3⟩ := pq_natL (n := 9) a2.1 a2.2 (by decide)
  refine ⟨H, L, T, ?_, hL, hT, e2, e1, e3⟩
  have := a1.2.1
  rw [e1, e2, pq_ti (by omega), pq_ti (by omega)] at this
  omega
theorem pq_aN (hV : pq_V g n p N) (hb : b < n) (hN : N ≤ 90000) : ∃ A, A ≤ N ∧ g 3 - g (20 + 6 * b) = Int32.ofNat A := by
  have a1 := pq_v3 hV
  have a2 := pq_vs hV hb
  obtain ⟨Y, hY, e1⟩ := pq_natL (n := N) a1.1 a1.2 (by omega)
  obtain ⟨S, hS, e2⟩ := pq_natL (n := N) a2.1 (Int.le_trans a2.2 a1.2) (by omega)
  have h1 := a2.2
  rw [e1, e2, pq_ti (by omega), pq_ti (by omega)] at h1
  exact ⟨Y - S, by omega, by rw [e1, e2, Int32.ofNat_sub _ _ (by omega)]⟩
theorem pq_PN (hV : pq_V g n p N) (hb : b < n) : ∃ P, P ≤ 100 ∧ pq_P g b = Int32.ofNat P := by
  obtain ⟨H, L, T, h1, h2, -, e1, e2, -⟩ := pq_bN hV hb
  exact ⟨_, pq_p100 h1, by rw [pq_P, e1, e2, pq_prN (by omega) (by omega)]⟩
theorem pq_N9 (hV : pq_V g n p N) (hN : N ≤ 90000) (hb : b < n) : ∃ v, v ≤ 9 ∧ pq_N g b 0 = Int32.ofNat v := by
  obtain ⟨H, L, T, h1, h2, h3, e1, e2, e3⟩ := pq_bN hV hb
  obtain ⟨A, hA, e4⟩ := pq_aN hV hb hN
  obtain ⟨P, hP, e5⟩ := pq_PN hV hb
  unfold pq_N pq_nt
  unfold pq_P at e5
  by_cases h0 : g (16 + 6 * b) = 0
  · rw [if_pos h0]; exact ⟨0, by omega, rfl⟩
  · rw [if_neg h0, e5, e4, e3, Int32.add_zero, pq_tsN h3 (by omega)]
    have hv : (if T + A / 2 ≤ 9 then T + A / 2 else 9) ≤ 9 := by split <;> omega
    rw [pq_ntN hv hP]
    refine ⟨_, ?_, rfl⟩
    refine Nat.div_le_of_le_mul ?_
    rw [Nat.mul_comm 100 9]
    exact Nat.mul_le_mul hv (by omega)

theorem q_8_mean_6 (hX : pq_X rf x) (hR : pq_R σ (x + 2) g n p) (hV : pq_V g n p N) (K : Int32 → Int32 → Int32 → rc_S → Option (Nat × UInt64 × rc_S)) : ∀ (d fu i : Nat) (a c : Int32), i + d = n → f_X8_meanNote_6 rf x K (fu + d + 1) a c (Int32.ofNat i) σ = K (pq_fd (fun b a => a + pq_N g b 0) i d a) (pq_fd (fun b a => if g (16 + 6 * b) = 0 then a else a + 1) i d c) (Int32.ofNat n) σ := by
  have h8 := pq_vn hV
  have hK := pq_xk hX
  intro d
  induction d with
  | zero =>
    intro fu i a c h
    have hi : i = n := by omega
    subst hi
    rw [f_X8_meanNote_6]
    simp (disch := omega) only [pq_x1 hX, pq_c0 hR, pq_v0 hV, pq_le, Nat.le_refl, if_true, pq_fd]
  | succ d ih =>
    intro fu i a c h
    have hni : (n ≤ i) = False := by simp; omega

    rw [show fu + (d + 1) + 1 = (fu + d + 1) + 1 from rfl, f_X8_meanNote_6]
    simp (disch := omega) only [pq_x1 hX, pq_c0 hR, pq_v0 hV, pq_le, hni, if_false, pq_in, pq_cl, pq_ck, pq_bd, rc_lt, pq_s, pq_fd, pq_k1 hK, pq_kb hK, q1_note hR hV, q0_empty, pq_b1 hR, pq_i10]
    by_cases hc : g (16 + 6 * i) = 0
    · rw [if_neg (not_not_intro hc), if_pos hc, Int32.add_zero, ih fu (i + 1) _ _ (by omega)]
    · rw [if_pos hc, if_neg hc, ih fu (i + 1) _ _ (by omega)]
theorem q_9_mean_6 (hM : pq_M rf m) (hg : σ (m + 1) = g) (hV : pq_V g n p N) (K : Int32 → Int32 → Int32 → rc_S → Option (UInt64 × rc_S)) : ∀ (d fu i : Nat) (a c : Int32), i + d = n → f_X9_meanNote_6 rf m K (fu + d + 1) a c (Int32.ofNat i) σ = K (pq_fd (fun b a => a + pq_N g b 0) i d a) (pq_fd (fun b a => if g (16 + 6 * b) = 0 then a else a + 1) i d c) (Int32.ofNat n) σ := by
  have h8 := pq_vn hV
  intro d
  induction d with
  | zero =>
    intro fu i a c h
    have hi : i = n := by omega
    subst hi
    rw [f_X9_meanNote_6]
    simp (disch := omega) only [pq_m1 hM, hg, pq_v0 hV, pq_le, Nat.le_refl, if_true, pq_fd]
  | succ d ih =>
    intro fu i a c h
    have hni : (n ≤ i) = False := by simp; omega
    have hz : (g (16 + 6 * i) ≤ 0) = (g (16 + 6 * i) = 0) := by
      have va := pq_vh hV (show i < n by omega)
      have := pq_i0 (Int.le_trans va.1 va.2.1)
      apply propext; constructor <;> intro q <;> grind
    rw [show fu + (d + 1) + 1 = (fu + d + 1) + 1 from rfl, f_X9_meanNote_6]
    simp (disch := omega) only [pq_m1 hM, hg, pq_v0 hV, pq_le, hni, if_false, pq_in, pq_cl, pq_ck, pq_bd, rc_lt, pq_s, pq_fd, q9_note hM hg, q9_of1 hM hg]
    simp only [hz]
    by_cases hc : g (16 + 6 * i) = 0
    · rw [if_pos hc, if_pos hc, Int32.add_zero, ih fu (i + 1) _ _ (by omega)]
    · rw [if_neg hc, if_neg hc, ih fu (i + 1) _ _ (by omega)]
theorem pq_cnt {f : Nat → Prop} {df : ∀ b, Decidable (f b)} : ∀ (d i : Nat) (acc : Int32) (A : Nat), acc = Int32.ofNat A → ∃ K, A ≤ K ∧ K ≤ A + d ∧ pq_fd (fun b a => if f b then a else a + 1) i d acc = Int32.ofNat K := by
  intro d
  induction d with
  | zero => intro i acc A ha; exact ⟨A, by omega, by omega, ha⟩
  | succ d ih =>
    intro i acc A ha
    by_cases hc : f i
    · obtain ⟨K, h1, h2, e⟩ := ih (i + 1) acc A ha
      exact ⟨K, h1, by omega, by rw [pq_fd, if_pos hc]; exact e⟩
    · obtain ⟨K, h1, h2, e⟩ := ih (i + 1) (acc + 1) (A + 1) (by rw [ha, pq_s])
      exact ⟨K, by omega, by omega, by rw [pq_fd, if_neg hc]; exact e⟩
theorem q_meanNote (hX : pq_X rf x) (hR : pq_R σ (x + 2) g n p) (hV : pq_V g n p N) (hg : σ (x + 308 + 1) = g) (hN : N ≤ 90000) : pq_Q (f_X8_meanNote rf x σ) (f_X9_meanNote rf (x + 308) σ) σ (x + 308) (fun k cd => (k = 0 ∧ cd = 0) ∨ (k = 6 ∧ cd = 1)) := by
  have hK := pq_xk hX
  have hM := pq_xm hX
  have h8 := pq_vn hV
  have h4 := pq_vp hV
  have hl8 := fun (K : Int32 → Int32 → Int32 → rc_S → Option (Nat × UInt64 × rc_S)) => q_8_mean_6 hX hR hV K n (99999 - n) 0 0 0 (by omega)
  have hl9 := fun (K : Int32 → Int32 → Int32 → rc_S → Option (UInt64 × rc_S)) => q_9_mean_6 hM hg hV K n (99999 - n) 0 0 0 (by omega)
  rw [← pq_fu n (by omega), show Int32.ofNat 0 = (0 : Int32) from rfl] at hl8 hl9
  obtain ⟨Q, hQ, eQ⟩ := pq_fdN (h := fun b => pq_N g b 0) (n := n) (M := 9) (fun b hb => pq_N9 hV hN hb) n 0 0 0 rfl (by omega)
  obtain ⟨F, -, hF, eF⟩ := pq_cnt (f := fun b => g (16 + 6 * b) = 0) (df := fun b => inferInstance) n 0 0 0 rfl
  by_cases h0 : F = 0
  · subst h0
    refine pq_Qm 6 1 (0 : UInt64) FP.dconst0 (by simp) (by simp) ?_ ?_
    · rw [f_X8_meanNote, hl8, eQ, eF, show Int32.ofNat 0 = (0 : Int32) from rfl, if_pos rfl]
    · rw [f_X9_meanNote, hl9, eQ, eF, show Int32.ofNat 0 = (0 : Int32) from rfl, if_pos rfl, rc_lt, if_pos rfl]
  · have hz : ¬ Int32.ofNat F = 0 := fun q => h0 ((pq_eq (by omega) (show 0 < 2147483648 by decide)).mp q)
    have hd := pq_dn0 Q (by omega) F (by omega) h0
    refine pq_QmE (FP.ddiv (FP.i2d (Int32.ofNat Q)) (FP.i2d (Int32.ofNat F))) (by simp) ?_ ?_
    · rw [f_X8_meanNote, hl8, eQ, eF, if_neg hz, pq_cd hd]
    · rw [f_X9_meanNote, hl9, eQ, eF, if_neg hz, rc_lt, if_neg hz, pq_cd hd]
theorem q9_hs (hM : pq_M rf m) (hg : σ (m + 1) = g) (hV : pq_V g n p N) {K : Int32 → Int32 → rc_S → Option (UInt32 × rc_S)} : f_X9_hailShare_4 rf m K rc_fu 0 0 σ = K (pq_fd (fun b a => a + g (17 + 6 * b)) 0 n 0) (Int32.ofNat n) σ := by
  have hx := pq_vn hV
  rw [pq_fu n (by omega)]
  exact q_9_hailShare_4 hM hg hV K n (99999 - n) 0 0 (by omega)
theorem q_hailShare (hX : pq_X rf x) (hR : pq_R σ (x + 2) g n p) (hV : pq_V g n p N) (hg : σ (x + 308 + 1) = g) : ∃ (k : Nat) (r : UInt32) (cd : Int32) (b : UInt32), f_X8_hailShare rf x σ = some (k, r, σ) ∧ f_X9_hailShare rf (x + 308) σ = some (b, rc_up σ (x + 308) 0 cd) ∧ ((k = 0 ∧ cd = 0) ∨ (k = 6 ∧ cd = 1)) ∧ (k = 0 → r = b) ∧ (k = 0 → vf_n64 (FP.f2d r)) := by
  have hK := pq_xk hX
  have hM := pq_xm hX
  have h8 := pq_vn hV
  have h4 := pq_vp hV
  obtain ⟨Q, hQ, eQ⟩ := pq_fdN (h := fun b => g (17 + 6 * b)) (n := n) (M := 20) (fun b hb => by obtain ⟨H, L, T, h1, h2, -, e1, -⟩ := pq_bN hV hb; exact ⟨H, by omega, e1⟩) n 0 0 0 rfl (by omega)
  obtain ⟨F, hF, eF⟩ := pq_fdN (h := fun b => g (16 + 6 * b)) (n := n) (M := 20) (fun b hb => by obtain ⟨H, L, T, h1, h2, -, -, e1, -⟩ := pq_bN hV hb; exact ⟨L, by omega, e1⟩) n 0 0 0 rfl (by omega)
  by_cases h0 : F = 0
  · subst h0
    refine ⟨6, 0, 1, FP.fconst0, ?_, ?_, Or.inr ⟨rfl, rfl⟩, (fun h => nomatch h), (fun h => nomatch h)⟩
    · rw [f_X8_hailShare, pq_x1 hX, q_1_litresInBarrels hK hR hV, pq_bd, eF, show Int32.ofNat 0 = (0 : Int32) from rfl, if_pos rfl]
    · rw [f_X9_hailShare, q9_hs hM hg hV, q_9_allLitres hM hg hV, pq_bd, eF, show Int32.ofNat 0 = (0 : Int32) from rfl, if_pos rfl, rc_lt]
      simp only [pq_upE, pq_udE]
      rw [if_neg (by decide)]
  · have hz : ¬ Int32.ofNat F = 0 := fun q => h0 ((pq_eq (by omega) (show 0 < 2147483648 by decide)).mp q)
    have hd := pq_fnn F (by omega) h0 Q (by omega)
    refine ⟨0, _, 0, FP.fdiv (FP.i2f (Int32.ofNat Q)) (FP.i2f (Int32.ofNat F)), ?_, ?_, Or.inl ⟨rfl, rfl⟩, fun _ => rfl, fun _ => hd.2⟩
    · rw [f_X8_hailShare, pq_x1 hX, q_1_litresInBarrels hK hR hV, pq_bd, eF, if_neg hz, q_1_hailInBarrels hK hR hV, pq_bd, eQ, pq_cd hd.1]
    · rw [f_X9_hailShare, q9_hs hM hg hV, q_9_allLitres hM hg hV, pq_bd, eF, if_neg hz, rc_lt]
      simp only [pq_upE, pq_udE]
      rw [if_pos (by decide), q_9_allLitres hM (pq_gu hg) hV, pq_bd, eF, eQ, pq_cd hd.1]
theorem q0_yby {a : Nat} {T A : Nat} {K : Int32 → Int32 → rc_S → Option (Int32 × rc_S)} (hT : T ≤ 9) (hA : A ≤ 90000) : ∀ (d fu i : Nat), i + d = A → f_X0_noteYearByYear_7 rf a (Int32.ofNat A) K (fu + d + 1) (Int32.ofNat (if T + i / 2 ≤ 9 then T + i / 2 else 9)) (Int32.ofNat (i + 1)) σ = K (Int32.ofNat (if T + A / 2 ≤ 9 then T + A / 2 else 9)) (Int32.ofNat (A + 1)) σ := by
  intro d
  induction d with
  | zero =>
    intro fu i h
    have hi : i = A := by omega
    subst hi
    rw [f_X0_noteYearByYear_7, if_pos ((pq_lt (by omega) (by omega)).mpr (by omega))]
  | succ d ih =>
    intro fu i h
    rw [show fu + (d + 1) + 1 = (fu + d + 1) + 1 from rfl, f_X0_noteYearByYear_7, if_neg (fun q => by have := (pq_lt (by omega) (by omega)).mp q; omega)]
    have hm : Int32.ofNat (i + 1) - Int32.ofNat (i + 1) / 2 * 2 = Int32.ofNat ((i + 1) % 2) := pq_md (by decide) (by omega) (by decide)
    rw [hm]
    by_cases h2 : (i + 1) % 2 = 0
    · rw [if_pos (by rw [h2]; rfl)]
      by_cases h9 : T + i / 2 ≤ 9
      · rw [if_pos h9]
        by_cases h8 : 9 ≤ T + i / 2
        · rw [if_pos (show (9 : Int32) ≤ Int32.ofNat (T + i / 2) from (pq_le (show 9 < 2147483648 by decide) (by omega)).mpr h8), rc_lt, pq_s]
          have := ih fu (i + 1) (by omega)
          rw [if_neg (show ¬ T + (i + 1) / 2 ≤ 9 by omega)] at this
          rw [show T + i / 2 = 9 by omega]
          exact this
        · rw [if_neg (show ¬ (9 : Int32) ≤ Int32.ofNat (T + i / 2) from fun q => h8 ((pq_le (show 9 < 2147483648 by decide) (by omega)).mp q)), rc_lt, rc_lt, pq_s, pq_s]
          have := ih fu (i + 1) (by omega)
          rw [if_pos (show T + (i + 1) / 2 ≤ 9 by omega)] at this
          rw [show T + i / 2 + 1 = T + (i + 1) / 2 by omega]
          exact this
      · rw [if_neg h9, if_pos (show (9 : Int32) ≤ Int32.ofNat 9 by decide), rc_lt, pq_s]
        have := ih fu (i + 1) (by omega)
        rw [if_neg (show ¬ T + (i + 1) / 2 ≤ 9 by omega)] at this
        exact this
    · rw [if_neg (show ¬ Int32.ofNat ((i + 1) % 2) = 0 from fun q => h2 ((pq_eq (by omega) (show 0 < 2147483648 by decide)).mp q)), rc_lt, pq_s]
      have := ih fu (i + 1) (by omega)
      rw [show (i + 1) / 2 = i / 2 by omega] at this
      exact this
theorem q_noteAgain (hX : pq_X rf x) (hR : pq_R σ (x + 2) g n p) (hV : pq_V g n p N) (hg : σ (x + 308 + 1) = g) {u1 : Int32} (hN : N ≤ 90000) : pq_Q (f_X8_noteAgain rf x u1 σ) (f_X9_noteAgain rf (x + 308) u1 σ) σ (x + 308) (fun k cd => (k = 0 ∧ cd = 0) ∨ (k = 2 ∧ cd = 1) ∨ (k = 4 ∧ cd = 2)) := by
  have hK := pq_xk hX
  have hM := pq_xm hX
  have h8 := pq_vn hV
  have h4 := pq_vp hV
  by_cases h1 : ¬ u1 < 0 ∧ u1 < g 0
  · obtain ⟨b, hb, rfl⟩ := pq_ub hV h1
    have hb8 : b < 8 := by omega
    by_cases h2 : g (16 + 6 * b) = 0
    · refine pq_Qm 4 2 (0 : Int32) 0 (by simp) (by simp) ?_ ?_
      · simp (disch := omega) only [f_X8_noteAgain, pq_bd, pq_ck, pq_bx, rc_lt, pq_i10, pq_i01, pq_x1 hX, pq_x2 hX, pq_x5 hX, pq_x6 hX, pq_x8 hX, pq_k0 hK, pq_k1 hK, pq_k3 hK, pq_k4 hK, pq_kp hK, pq_ks hK, q8_fi hX hR hV hb h1, h2, pq_bxk (show (2 : Nat) ≠ 0 by decide), pq_bxk (show (4 : Nat) ≠ 0 by decide), not_false_eq_true, not_true_eq_false, and_self, and_true, true_and, and_false, false_and, or_true, true_or, or_false, false_or, if_true, if_false, ↓reduceIte, Decidable.not_not, ne_eq, Int32.reduceLE, Int32.reduceLT, pq_nes, eq_self]
      · simp (disch := omega) only [f_X9_noteAgain, f_X9_note, pq_bd, pq_ck, pq_bx, rc_lt, pq_i10, pq_i01, pq_upE, pq_udE, pq_uu, pq_gu hg, q9_fi hM hg hV hb h1, h2, not_false_eq_true, not_true_eq_false, and_self, and_true, true_and, and_false, false_and, or_true, true_or, or_false, false_or, if_true, if_false, ↓reduceIte, Decidable.not_not, ne_eq, Int32.reduceLE, Int32.reduceLT, pq_nes, eq_self]
    · have hfi : f_X8_filled rf x (Int32.ofNat b) σ = some (0, x + 2 + 7 + b, σ) := by rw [q8_fi hX hR hV hb h1, if_neg h2]
      have hf9 : f_X9_filled rf (x + 308) (Int32.ofNat b) σ = some (0, σ) := by rw [q9_fi hM hg hV hb h1, if_neg h2]
      obtain ⟨Hh, L, T, g1, g2, g3, e1, e2, e3⟩ := pq_bN hV hb
      obtain ⟨A, hA, e4⟩ := pq_aN hV hb hN
      obtain ⟨Pp, hP, e5⟩ := pq_PN hV hb
      have ha : pq_A g b = Int32.ofNat A := by rw [pq_A, pq_age, if_neg h2, e4]
      have hv : pq_N g b 0 = Int32.ofNat (if T + A / 2 ≤ 9 then T + A / 2 else 9) * (100 - pq_P g b) / 100 := by
        rw [pq_N, pq_nt, if_neg h2, e4, e3, Int32.add_zero, pq_tsN g3 (by omega)]; rfl
      have hy : f_X0_noteYearByYear rf (x + 2 + 7 + b) (Int32.ofNat A) σ = some (pq_N g b 0, σ) := by
        have hl := fun (K : Int32 → Int32 → rc_S → Option (Int32 × rc_S)) => q0_yby (rf := rf) (σ := σ) (a := x + 2 + 7 + b) (K := K) g3 (show A ≤ 90000 by omega) A (99999 - A) 0 (by omega)
        rw [← pq_fu A (by omega), if_pos (show T + 0 / 2 ≤ 9 by omega), show T + 0 / 2 = T by omega, show Int32.ofNat (0 + 1) = (1 : Int32) from rfl] at hl
        rw [f_X0_noteYearByYear, rc_lt, pq_b4 hR hb, e3, hl, q0_taste (by rw [pq_b1 hR hb]; have := pq_vh hV hb; omega), pq_bd, pq_b1 hR hb, pq_b2 hR hb, hv]; rfl
      refine pq_QmE (pq_N g b 0) (by simp) ?_ ?_
      · simp (disch := omega) only [f_X8_noteAgain, pq_bd, pq_ck, pq_bx, rc_lt, pq_i10, pq_i01, pq_x1 hX, pq_x2 hX, pq_x5 hX, pq_x6 hX, pq_x8 hX, pq_k0 hK, pq_k1 hK, pq_k3 hK, pq_k4 hK, pq_kp hK, pq_ks hK, hfi, q1_age hR hb, ha, hy, not_false_eq_true, not_true_eq_false, and_self, and_true, true_and, and_false, false_and, or_true, true_or, or_false, false_or, if_true, if_false, ↓reduceIte, Decidable.not_not, ne_eq, Int32.reduceLE, Int32.reduceLT, pq_nes, eq_self]
      · simp (disch := omega) only [f_X9_noteAgain, f_X9_note, pq_bd, pq_ck, pq_bx, rc_lt, pq_i10, pq_i01, pq_upE, pq_udE, pq_uu, pq_gu hg, hf9, q9_note hM (pq_gu hg), not_false_eq_true, not_true_eq_false, and_self, and_true, true_and, and_false, false_and, or_true, true_or, or_false, false_or, if_true, if_false, ↓reduceIte, Decidable.not_not, ne_eq, Int32.reduceLE, Int32.reduceLT, pq_nes, eq_self]
  · refine pq_Qm 2 1 (0 : Int32) 0 (by simp) (by simp) ?_ ?_
    · simp (disch := omega) only [f_X8_noteAgain, pq_bd, pq_ck, pq_bx, rc_lt, pq_i10, pq_i01, pq_x1 hX, pq_x2 hX, pq_x5 hX, pq_x6 hX, pq_x8 hX, pq_k0 hK, pq_k1 hK, pq_k3 hK, pq_k4 hK, pq_kp hK, pq_ks hK, f_X8_filled, q8_ex0 hX hR h1, pq_bxk (show (2 : Nat) ≠ 0 by decide), pq_bxk (show (4 : Nat) ≠ 0 by decide), not_false_eq_true, not_true_eq_false, and_self, and_true, true_and, and_false, false_and, or_true, true_or, or_false, false_or, if_true, if_false, ↓reduceIte, Decidable.not_not, ne_eq, Int32.reduceLE, Int32.reduceLT, pq_nes, eq_self]
    · simp (disch := omega) only [f_X9_noteAgain, f_X9_note, pq_bd, pq_ck, pq_bx, rc_lt, pq_i10, pq_i01, pq_upE, pq_udE, pq_uu, pq_gu hg, q9_fi0 hM hg hV h1, not_false_eq_true, not_true_eq_false, and_self, and_true, true_and, and_false, false_and, or_true, true_or, or_false, false_or, if_true, if_false, ↓reduceIte, Decidable.not_not, ne_eq, Int32.reduceLE, Int32.reduceLT, pq_nes, eq_self]
end PQQ5
