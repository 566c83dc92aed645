theorem pq_Vk {g g' : Nat → Int32} {n p N n' p' : Nat} (h : pq_V g n p N) (h0 : g' 0 = Int32.ofNat n' ∧ n' ≤ 8) (h1 : g' 1 = Int32.ofNat p' ∧ p' ≤ 4) (h2 : g' 2 = g 2 ∨ (0 ≤ (g' 2).toInt ∧ (g' 2).toInt ≤ 9)) (h3 : g' 3 = g 3 ∨ ((g 3).toInt ≤ (g' 3).toInt ∧ (g' 3).toInt ≤ N)) (h4 : g' 4 = g 4 ∨ (0 ≤ (g' 4).toInt ∧ (g' 4).toInt ≤ N))
    (hm : ∀ r, r < 4 → g' (11 + r) = g (11 + r) ∨ (0 ≤ (g' (11 + r)).toInt ∧ (g' (11 + r)).toInt ≤ 9))
    (hb : ∀ b, b < n' → (b < n ∧ ∀ k, k < 6 → g' (15 + 6 * b + k) = g (15 + 6 * b + k)) ∨ pq_vB (g' 3) (g' (15 + 6 * b)) (g' (16 + 6 * b)) (g' (17 + 6 * b)) (g' (18 + 6 * b)) (g' (19 + 6 * b)) (g' (20 + 6 * b)) (N))
    (hp : ∀ j, j < p' → (j < p ∧ g' (63 + 2 * j) = g (63 + 2 * j) ∧ g' (64 + 2 * j) = g (64 + 2 * j)) ∨ ((0 ≤ (g' (63 + 2 * j)).toInt ∧ (g' (63 + 2 * j)).toInt ≤ 9) ∧ (g' (64 + 2 * j) = 0 ∨ g' (64 + 2 * j) = 1))) : pq_V g' n' p' N := by
  have y3 : (g 3).toInt ≤ (g' 3).toInt := by rcases h3 with q | q; rw [q]; exact Int.le_refl _; exact q.1
  refine ⟨h0, h1, ?_, ⟨?_, ?_⟩, ?_, fun r hr => ?_, fun b hb' => ?_, fun j hj => ?_⟩
  · rcases h2 with q | q; rw [q]; exact pq_v2 h; exact q
  · have := (pq_v3 h).1; omega
  · rcases h3 with q | q; rw [q]; have := (pq_v3 h).2; omega; have := q.2; omega
  · rcases h4 with q | q; rw [q]; have := pq_v4 h; omega; exact ⟨q.1, by have := q.2; omega⟩
  · rcases hm r hr with q | q; rw [q]; exact pq_vm h hr; exact q
  · rcases hb b hb' with q | q
    · have e0 := q.2 0 (by omega); have e1 := q.2 1 (by omega); have e2 := q.2 2 (by omega); have e3 := q.2 3 (by omega); have e4 := q.2 4 (by omega); have e5 := q.2 5 (by omega)
      rw [show 15 + 6 * b + 1 = 16 + 6 * b by omega] at e1
      rw [show 15 + 6 * b + 2 = 17 + 6 * b by omega] at e2
      rw [show 15 + 6 * b + 3 = 18 + 6 * b by omega] at e3
      rw [show 15 + 6 * b + 4 = 19 + 6 * b by omega] at e4
      rw [show 15 + 6 * b + 5 = 20 + 6 * b by omega] at e5
      rw [Nat.add_zero] at e0
      have z := pq_VB h q.1
      rw [e0, e1, e2, e3, e4, e5]
      exact ⟨z.1, z.2.1, ⟨z.2.2.1.1, by have := z.2.2.1.2; omega⟩, z.2.2.2.1, ⟨z.2.2.2.2.1.1, Int.le_trans z.2.2.2.2.1.2 y3⟩, z.2.2.2.2.2.1, z.2.2.2.2.2.2⟩
    · exact q
  · rcases hp j hj with q | q
    · rw [q.2.1, q.2.2]; exact ⟨pq_vpp h q.1, pq_vps h q.1⟩
    · exact q
theorem pq_eL {G A g s : Int32} (h : G + A + 0 = g + 0 + s) : g + (s - A) = G := by grind
theorem pq_eM (t : Int32) : (if t ≤ 9 then t else 9) = (if 9 < t then 9 else t) := by grind
/-! a storm -/
def pq_q20 (L : Int32) : Int32 := if 20 < L then 20 else L
def pq_f1 (r b : Nat) (L : Int32) (g : Nat → Int32) : Int32 × (Nat → Int32) := if ¬ L ≤ 0 ∧ g (15 + 6 * b) = Int32.ofNat r ∧ g (16 + 6 * b) = 0 then (L - pq_q20 L, upd (upd (upd (upd g (16 + 6 * b) (pq_q20 L)) (18 + 6 * b) (g 4)) (20 + 6 * b) (g 3)) (19 + 6 * b) (g (11 + r))) else (L, g)
def pq_ff (r : Nat) : Nat → Nat → Int32 → (Nat → Int32) → Int32 × (Nat → Int32)
  | _, 0, L, g => (L, g)
  | i, d + 1, L, g => pq_ff r (i + 1) d (pq_f1 r i L g).1 (pq_f1 r i L g).2
theorem pq_f1N {r b : Nat} {L : Int32} {g : Nat → Int32} (j : Nat) (h : j < 16 + 6 * b ∨ 21 + 6 * b ≤ j) : (pq_f1 r b L g).2 j = g j := by
  unfold pq_f1
  split
  · simp (disch := omega) only [pq_udN]
  · rfl
theorem pq_ffN {r : Nat} : ∀ (d i : Nat) (L : Int32) (g : Nat → Int32) (j : Nat), (j < 16 + 6 * i ∨ 15 + 6 * (i + d) ≤ j) → (pq_ff r i d L g).2 j = g j := by
  intro d
  induction d with
  | zero => intro i L g j _; rfl
  | succ d ih =>
    intro i L g j h
    rw [pq_ff, ih (i + 1) _ _ j (by omega), pq_f1N j (by omega)]
theorem pq_f1L {r b l : Nat} (hl : l ≤ 1000) {g : Nat → Int32} : ∃ l', l' ≤ l ∧ (pq_f1 r b (Int32.ofNat l) g).1 = Int32.ofNat l' := by
  unfold pq_f1 pq_q20
  split
  · by_cases h : 20 < l
    · rw [if_pos (show (20 : Int32) < Int32.ofNat l from (pq_lt (n := 20) (by decide) (by omega)).mpr h)]
      exact ⟨l - 20, by omega, by rw [Int32.ofNat_sub _ _ (by omega)]; rfl⟩
    · rw [if_neg (show ¬ (20 : Int32) < Int32.ofNat l from fun q => h ((pq_lt (n := 20) (by decide) (by omega)).mp q))]
      exact ⟨0, by omega, by rw [Int32.sub_self]; rfl⟩
  · exact ⟨l, by omega, rfl⟩
theorem pq_ffL {r : Nat} : ∀ (d i l : Nat) (g : Nat → Int32), l ≤ 1000 → ∃ l', l' ≤ l ∧ (pq_ff r i d (Int32.ofNat l) g).1 = Int32.ofNat l' := by
  intro d
  induction d with
  | zero => intro i l g hl; exact ⟨l, by omega, rfl⟩
  | succ d ih =>
    intro i l g hl
    obtain ⟨l1, h1, e1⟩ := pq_f1L (r := r) (b := i) hl (g := g)
    obtain ⟨l2, h2, e2⟩ := ih (i + 1) l1 (pq_f1 r i (Int32.ofNat l) g).2 (by omega)
    exact ⟨l2, by omega, by rw [pq_ff, e1, e2]⟩
theorem pq_ff0 {r : Nat} {L : Int32} (hL : L ≤ 0) : ∀ (d i : Nat) (g : Nat → Int32), pq_ff r i d L g = (L, g) := by
  intro d
  induction d with
  | zero => intro i g; rfl
  | succ d ih =>
    intro i g
    have e : pq_f1 r i L g = (L, g) := by unfold pq_f1; rw [if_neg (fun q => q.1 hL)]
    rw [pq_ff, e, ih]
/-- what is left is what 'caught' leaves -/
theorem pq_ffc {r : Nat} : ∀ (d i l : Nat) (g g0 : Nat → Int32), l ≤ 1000 → (∀ j, 15 + 6 * i ≤ j → g j = g0 j) → (pq_ff r i d (Int32.ofNat l) g).1 = pq_fd (pq_ca g0 (Int32.ofNat r)) i d (Int32.ofNat l) := by
  intro d
  induction d with
  | zero => intro i l g g0 _ _; rfl
  | succ d ih =>
    intro i l g g0 hl hg
    obtain ⟨l1, h1, e1⟩ := pq_f1L (r := r) (b := i) hl (g := g)
    rw [pq_ff, pq_fd]
    have e2 : pq_ca g0 (Int32.ofNat r) i (Int32.ofNat l) = (pq_f1 r i (Int32.ofNat l) g).1 := by
      unfold pq_ca pq_f1 pq_q20
      rw [← hg (15 + 6 * i) (by omega), ← hg (16 + 6 * i) (by omega)]
      by_cases hc : g (15 + 6 * i) = Int32.ofNat r ∧ g (16 + 6 * i) = 0
      · rw [if_pos hc]
        by_cases h0 : Int32.ofNat l ≤ 0
        · have : l = 0 := by have := (pq_le (m := 0) (by omega) (by decide)).mp h0; omega
          subst this
          rw [if_pos (by decide), if_neg (fun q => q.1 h0)]; rfl
        · rw [if_pos (show ¬ Int32.ofNat l ≤ 0 ∧ g (15 + 6 * i) = Int32.ofNat r ∧ g (16 + 6 * i) = 0 from ⟨h0, hc⟩)]
          by_cases h20 : 20 < l
          · rw [if_neg (show ¬ Int32.ofNat l ≤ 20 from fun q => by have := (pq_le (m := 20) (by omega) (by decide)).mp q; omega), if_pos (show (20 : Int32) < Int32.ofNat l from (pq_lt (n := 20) (by decide) (by omega)).mpr h20)]
          · rw [if_pos (show Int32.ofNat l ≤ 20 from (pq_le (m := 20) (by omega) (by decide)).mpr (by omega)), if_neg (show ¬ (20 : Int32) < Int32.ofNat l from fun q => h20 ((pq_lt (n := 20) (by decide) (by omega)).mp q)), Int32.sub_self]
      · rw [if_neg hc, if_neg (fun q => hc q.2)]
    rw [e2, e1]
    exact ih (i + 1) l1 _ g0 (by omega) (fun j hj => by rw [pq_f1N j (by omega)]; exact hg j (by omega))
section PQST
variable {rf : rc_F} {x c m : Nat} {n p N : Nat}
theorem pq_f1V {g : Nat → Int32} {r b l : Nat} (hV : pq_V g n p N) (hN : N ≤ 900) (hr : r < 4) (hb : b < n) (hl : l ≤ 1000) : pq_V (pq_f1 r b (Int32.ofNat l) g).2 n p N := by
  unfold pq_f1
  by_cases hc : ¬ Int32.ofNat l ≤ 0 ∧ g (15 + 6 * b) = Int32.ofNat r ∧ g (16 + 6 * b) = 0
  · rw [if_pos hc]
    have h8 := pq_vn hV
    have hl0 : l ≠ 0 := fun q => by subst q; exact hc.1 (by decide)
    have hq : ∃ q, 1 ≤ q ∧ q ≤ 20 ∧ pq_q20 (Int32.ofNat l) = Int32.ofNat q := by
      unfold pq_q20
      by_cases h : 20 < l
      · rw [if_pos (show (20 : Int32) < Int32.ofNat l from (pq_lt (n := 20) (by decide) (by omega)).mpr h)]
        exact ⟨20, by omega, by omega, rfl⟩
      · rw [if_neg (show ¬ (20 : Int32) < Int32.ofNat l from fun q => h ((pq_lt (n := 20) (by decide) (by omega)).mp q))]
        exact ⟨l, by omega, by omega, rfl⟩
    obtain ⟨q, q1, q20, eq⟩ := hq
    rw [eq]
    refine pq_Vk hV ⟨by simp (disch := omega) only [pq_udN]; exact pq_v0 hV, h8⟩ ⟨by simp (disch := omega) only [pq_udN]; exact pq_v1 hV, pq_vp hV⟩ (Or.inl (by simp (disch := omega) only [pq_udN])) (Or.inl (by simp (disch := omega) only [pq_udN])) (Or.inl (by simp (disch := omega) only [pq_udN])) (fun r hr => Or.inl (by simp (disch := omega) only [pq_udN])) (fun b' hb' => ?_) (fun j hj => Or.inl ⟨hj, by simp (disch := omega) only [pq_udN], by simp (disch := omega) only [pq_udN]⟩)
    by_cases e : b' = b
    · subst e
      refine Or.inr ?_
      simp (disch := omega) only [pq_udN, pq_udE]
      have z := pq_VB hV hb
      rw [(pq_ve hV hb hc.2.2).1]
      refine ⟨z.1, ⟨by decide, by rw [pq_ti (by omega)]; show (0 : Int) ≤ _; omega, by rw [pq_ti (by omega)]; omega⟩, ⟨by have := (pq_v4 hV).1; omega, (pq_v4 hV).2⟩, pq_vm hV hr, ⟨(pq_v3 hV).1, Int.le_refl _⟩, fun w => ?_, fun _ => (pq_v4 hV).1⟩
      have := (pq_eq (m := 0) (by omega) (by decide)).mp w
      omega
    · exact Or.inl ⟨hb', fun k hk => by simp (disch := omega) only [pq_udN]⟩
  · rw [if_neg hc]; exact hV
theorem pq_ffV {r : Nat} (hr : r < 4) (hN : N ≤ 900) : ∀ (d i l : Nat) (g : Nat → Int32), l ≤ 1000 → i + d ≤ n → pq_V g n p N → pq_V (pq_ff r i d (Int32.ofNat l) g).2 n p N := by
  intro d
  induction d with
  | zero => intro i l g _ _ hV; exact hV
  | succ d ih =>
    intro i l g hl hi hV
    obtain ⟨l1, h1, e1⟩ := pq_f1L (r := r) (b := i) hl (g := g)
    rw [pq_ff, e1]
    exact ih (i + 1) l1 _ (by omega) (by omega) (pq_f1V hV hN hr (by omega) hl)
/-- the class fills the barrels under a roof -/
theorem qo_f7 (hX : pq_X rf x) {S : Nat → Prop} {r : Nat} (hr : r < 4) (hn : n ≤ 8) (hS0 : S 0) (hS3 : S 3) (hS4 : S 4) (hSm : S (11 + r)) (hSb : ∀ b, b < n → ∀ k, k < 6 → S (15 + 6 * b + k)) (v2 : Int32) : ∀ (d fu i : Nat) (σ : rc_S) (g : Nat → Int32) (L : Int32), i + d = n → pq_S σ (x + 2) g S → g 0 = Int32.ofNat n → ∃ s, (∀ K : Int32 → Int32 → rc_S → Option (Int32 × rc_S), f_X7_fillUnder_5 rf (x + 1) (Int32.ofNat r) v2 K (fu + d + 1) L (Int32.ofNat i) σ = K (pq_ff r i d L g).1 (Int32.ofNat n) s) ∧ pq_S s (x + 2) (pq_ff r i d L g).2 S ∧ ∀ a, (a < x + 2 + 7 ∨ x + 2 + 15 ≤ a) → s a = σ a := by
  have hK := pq_xk hX
  intro d
  induction d with
  | zero =>
    intro fu i σ g L h hs h0
    have hi : i = n := by omega
    subst hi
    refine ⟨σ, fun K => ?_, hs, fun _ _ => rfl⟩
    have c0 : σ (x + 2) 2 = g 0 := hs 0 (by omega) hS0
    rw [f_X7_fillUnder_5, pq_w0 hX, c0, h0, if_pos (Int32.le_refl _)]; rfl
  | succ d ih =>
    intro fu i σ g L h hs h0
    have c0 : σ (x + 2) 2 = g 0 := hs 0 (by omega) hS0
    have c3 : σ (x + 2) 7 = g 3 := hs 3 (by omega) hS3
    have c4 : σ (x + 2) 5 = g 4 := hs 4 (by omega) hS4
    have cm : σ (x + 2 + 1) r = g (11 + r) := by
      have e := hs (11 + r) (by omega) hSm
      rw [(pq_adm hr).1, (pq_adm hr).2] at e; exact e
    have b0 : σ (x + 2 + 7 + i) 0 = g (15 + 6 * i) := by
      have e := hs (15 + 6 * i + 0) (by omega) (hSb i (by omega) 0 (by omega))
      rw [(pq_adb (by omega) (by omega)).1, (pq_adb (by omega) (by omega)).2, ← Nat.add_assoc] at e; exact e
    have b1 : σ (x + 2 + 7 + i) 1 = g (16 + 6 * i) := by
      have e := hs (15 + 6 * i + 1) (by omega) (hSb i (by omega) 1 (by omega))
      rw [(pq_adb (by omega) (by omega)).1, (pq_adb (by omega) (by omega)).2, ← Nat.add_assoc, show 15 + 6 * i + 1 = 16 + 6 * i by omega] at e; exact e
    have hni : ¬ Int32.ofNat n ≤ Int32.ofNat i := fun q => by have := (pq_le (by omega) (by omega)).mp q; omega
    by_cases hc : ¬ L ≤ 0 ∧ g (15 + 6 * i) = Int32.ofNat r ∧ g (16 + 6 * i) = 0
    · have e1 : pq_f1 r i L g = (L - pq_q20 L, upd (upd (upd (upd g (16 + 6 * i) (pq_q20 L)) (18 + 6 * i) (g 4)) (20 + 6 * i) (g 3)) (19 + 6 * i) (g (11 + r))) := by unfold pq_f1; rw [if_pos hc]
      have hs' : pq_S (rc_up (rc_up (rc_up (rc_up σ (x + 2 + 7 + i) 1 (pq_q20 L)) (x + 2 + 7 + i) 3 (g 4)) (x + 2 + 7 + i) 4 (g 3)) (x + 2 + 7 + i) 5 (g (11 + r))) (x + 2) (upd (upd (upd (upd g (16 + 6 * i) (pq_q20 L)) (18 + 6 * i) (g 4)) (20 + 6 * i) (g 3)) (19 + 6 * i) (g (11 + r))) S := fun j hj hS => pq_Sb4 (pq_Sb5 (pq_Sb3 (pq_Sb1 hs (by omega) _) (by omega) _) (by omega) _) (by omega) _ j hj (Or.inl (Or.inl (Or.inl (Or.inl hS))))
      obtain ⟨s, f1, f2, f3⟩ := ih fu (i + 1) _ _ (L - pq_q20 L) (by omega) hs' (by simp (disch := omega) only [pq_udN]; exact h0)
      rw [pq_ff, e1]
      refine ⟨s, fun K => ?_, f2, fun a ha => by rw [f3 a ha]; simp (disch := omega) only [pq_upN]⟩
      rw [show fu + (d + 1) + 1 = (fu + d + 1) + 1 from rfl, f_X7_fillUnder_5, pq_w0 hX, c0, h0, if_neg hni]
      simp (disch := omega) only [pq_in, pq_ck, pq_cl, hc.1, if_false, pq_k1 hK, pq_kb hK, b0, hc.2.1, if_true, q0_empty, b1, hc.2.2, pq_bd, pq_i10, not_true_eq_false, rc_lt, pq_upN, c4, c3, pq_k0 hK, cm, pq_upE, pq_udN, pq_udE, pq_s]
      exact f1 K
    · have e1 : pq_f1 r i L g = (L, g) := by unfold pq_f1; rw [if_neg hc]
      obtain ⟨s, f1, f2, f3⟩ := ih fu (i + 1) σ g L (by omega) hs h0
      rw [pq_ff, e1]
      refine ⟨s, fun K => ?_, f2, f3⟩
      rw [show fu + (d + 1) + 1 = (fu + d + 1) + 1 from rfl, f_X7_fillUnder_5, pq_w0 hX, c0, h0, if_neg hni]
      simp (disch := omega) only [pq_in, pq_ck, pq_cl, pq_k1 hK, pq_kb hK, b0, q0_empty, b1, pq_bd, pq_i10, rc_lt, pq_s]
      by_cases k1 : L ≤ 0
      · rw [if_pos k1]; exact f1 K
      · rw [if_neg k1]
        by_cases k2 : g (15 + 6 * i) = Int32.ofNat r
        · rw [if_pos k2, if_pos (fun q => hc ⟨k1, k2, q⟩)]; exact f1 K
        · rw [if_neg k2]; exact f1 K
/-- the reference does -/
theorem qo_f9 (hM : pq_M rf m) {r : Nat} (hr : r < 4) (hn : n ≤ 8) (v2 : Int32) : ∀ (d fu i : Nat) (σ : rc_S) (g : Nat → Int32) (L : Int32), i + d = n → σ (m + 1) = g → g 0 = Int32.ofNat n → (∀ b, i ≤ b → b < n → 0 ≤ (g (16 + 6 * b)).toInt) → ∃ s, (∀ K : Int32 → rc_S → Option (Unit × rc_S), f_X9_fills_9 rf m (Int32.ofNat r) v2 (fun v _ τ => K v τ) (fu + d + 1) L (Int32.ofNat i) σ = K (pq_ff r i d L g).1 s) ∧ s (m + 1) = (pq_ff r i d L g).2 ∧ ∀ a, a ≠ m + 1 → s a = σ a := by
  intro d
  induction d with
  | zero =>
    intro fu i σ g L h hs h0 hnn
    have hi : i = n := by omega
    subst hi
    refine ⟨σ, fun K => ?_, hs, fun _ _ => rfl⟩
    rw [f_X9_fills_9, pq_m1 hM, hs, h0, if_pos (Int32.le_refl _)]; rfl
  | succ d ih =>
    intro fu i σ g L h hs h0 hnn
    have hni : ¬ Int32.ofNat n ≤ Int32.ofNat i := fun q => by have := (pq_le (by omega) (by omega)).mp q; omega
    have hz : (g (16 + 6 * i) ≤ 0) = (g (16 + 6 * i) = 0) := by
      have := pq_i0 (hnn i (Nat.le_refl i) (by omega))
      apply propext; constructor <;> intro q <;> grind
    by_cases k1 : L ≤ 0
    · rw [pq_ff0 k1]
      refine ⟨σ, fun K => ?_, hs, fun _ _ => rfl⟩
      rw [show fu + (d + 1) + 1 = (fu + d + 1) + 1 from rfl, f_X9_fills_9, pq_m1 hM, hs, h0, if_neg hni, if_pos k1]
    · by_cases hc : g (15 + 6 * i) = Int32.ofNat r ∧ g (16 + 6 * i) = 0
      · have e1 : pq_f1 r i L g = (L - pq_q20 L, upd (upd (upd (upd g (16 + 6 * i) (pq_q20 L)) (18 + 6 * i) (g 4)) (20 + 6 * i) (g 3)) (19 + 6 * i) (g (11 + r))) := by unfold pq_f1; rw [if_pos ⟨k1, hc⟩]
        have er : (rc_up (rc_up (rc_up (rc_up σ (m + 1) (16 + 6 * i) (pq_q20 L)) (m + 1) (18 + 6 * i) (g 4)) (m + 1) (19 + 6 * i) (g (11 + r))) (m + 1) (20 + 6 * i) (g 3)) (m + 1) = upd (upd (upd (upd g (16 + 6 * i) (pq_q20 L)) (18 + 6 * i) (g 4)) (20 + 6 * i) (g 3)) (19 + 6 * i) (g (11 + r)) := by
          simp only [pq_upE, hs]
          funext j
          simp only [upd]
          repeat' split
          all_goals first | rfl | omega
        obtain ⟨s, f1, f2, f3⟩ := ih fu (i + 1) _ _ (L - pq_q20 L) (by omega) er (by simp (disch := omega) only [pq_udN]; exact h0) (fun b hb hb2 => by simp (disch := omega) only [pq_udN]; exact hnn b (by omega) hb2)
        rw [pq_ff, e1]
        refine ⟨s, fun K => ?_, f2, fun a ha => by rw [f3 a ha]; simp only [pq_upN ha]⟩
        rw [show fu + (d + 1) + 1 = (fu + d + 1) + 1 from rfl, f_X9_fills_9, pq_m1 hM, hs, h0, if_neg hni, if_neg k1]
        have f1 := f1 K
        by_cases k2 : L ≤ 20
        · have eq : pq_q20 L = L := by unfold pq_q20; rw [if_neg (Int32.not_lt.mpr k2)]
          rw [eq] at f1 ⊢
          simp (disch := omega) only [q9_o0 hM, q9_o1 hM, hs, pq_bd, hc.1, hc.2, Int32.reduceLE, if_true, k2, q9_st1 hM, q9_st3 hM, q9_st4 hM, q9_st5 hM, pq_mx, pq_in, pq_ck, pq_cl, rc_lt, pq_upE, pq_udN, pq_s]
          exact f1
        · have eq : pq_q20 L = 20 := by unfold pq_q20; rw [if_pos (Int32.not_le.mp k2)]
          rw [eq] at f1 ⊢
          simp (disch := omega) only [q9_o0 hM, q9_o1 hM, hs, pq_bd, hc.1, hc.2, Int32.reduceLE, if_true, k2, if_false, q9_st1 hM, q9_st3 hM, q9_st4 hM, q9_st5 hM, pq_mx, pq_in, pq_ck, pq_cl, rc_lt, pq_upE, pq_udN, pq_s]
          exact f1
      · have e1 : pq_f1 r i L g = (L, g) := by unfold pq_f1; rw [if_neg (fun q => hc q.2)]
        obtain ⟨s, f1, f2, f3⟩ := ih fu (i + 1) σ g L (by omega) hs h0 (fun b hb hb2 => hnn b (by omega) hb2)
        rw [pq_ff, e1]
        refine ⟨s, fun K => ?_, f2, f3⟩
        rw [show fu + (d + 1) + 1 = (fu + d + 1) + 1 from rfl, f_X9_fills_9, pq_m1 hM, hs, h0, if_neg hni, if_neg k1]
        simp (disch := omega) only [q9_o0 hM, q9_o1 hM, hs, pq_bd, hz, rc_lt, pq_s]
        by_cases k2 : g (15 + 6 * i) = Int32.ofNat r
        · rw [if_pos k2, if_neg (fun q => hc ⟨k2, q⟩)]; exact f1 K
        · rw [if_neg k2]; exact f1 K
def pq_mo (v s : Int32) : Int32 := if v - s / 3 < 0 then 0 else v - s / 3
def pq_ro (s : Int32) (n r : Nat) (g : Nat → Int32) : Nat → Int32 := upd (upd (pq_ff r 0 n ((Int32.ofNat r + 1) * s) g).2 7 (g 7 + (pq_ff r 0 n ((Int32.ofNat r + 1) * s) g).1)) (11 + r) (pq_mo (g (11 + r)) s)
def pq_rs (s : Int32) (n : Nat) : Nat → Nat → Int32 → (Nat → Int32) → Int32 × (Nat → Int32)
  | _, 0, a, g => (a, g)
  | i, d + 1, a, g => pq_rs s n (i + 1) d (a + ((Int32.ofNat i + 1) * s - (pq_ff i 0 n ((Int32.ofNat i + 1) * s) g).1)) (pq_ro s n i g)
theorem pq_roN {s : Int32} {r : Nat} {g : Nat → Int32} (j : Nat) (h7 : j ≠ 7) (hr : j ≠ 11 + r) (h : j < 16 ∨ 15 + 6 * n ≤ j) : pq_ro s n r g j = g j := by
  unfold pq_ro
  rw [pq_udN hr, pq_udN h7, pq_ffN n 0 _ g j (by omega)]
theorem pq_rsN {s : Int32} : ∀ (d i : Nat) (a : Int32) (g : Nat → Int32) (j : Nat), i + d = 4 → j ≠ 7 → (j < 11 ∨ 15 + 6 * n ≤ j) → (pq_rs s n i d a g).2 j = g j := by
  intro d
  induction d with
  | zero => intro i a g j _ _ _; rfl
  | succ d ih =>
    intro i a g j hi h7 h
    rw [pq_rs, ih (i + 1) _ _ j (by omega) h7 h, pq_roN j h7 (by omega) (by omega)]
theorem pq_Ww {s r : Nat} : (Int32.ofNat r + 1) * Int32.ofNat s = Int32.ofNat ((r + 1) * s) := by rw [pq_s, Int32.ofNat_mul]
theorem pq_Wb {s r : Nat} (hs : s ≤ 9) (hr : r < 4) : (r + 1) * s ≤ 36 := Nat.mul_le_mul (show r + 1 ≤ 4 by omega) hs
theorem pq_moN : ∀ v, v < 10 → ∀ s, s < 10 → 0 ≤ (pq_mo (Int32.ofNat v) (Int32.ofNat s)).toInt ∧ (pq_mo (Int32.ofNat v) (Int32.ofNat s)).toInt ≤ 9 := by decide
theorem pq_roV {g : Nat → Int32} {s r : Nat} (hV : pq_V g n p N) (hN : N ≤ 900) (hs : s ≤ 9) (hr : r < 4) : pq_V (pq_ro (Int32.ofNat s) n r g) n p N := by
  have h8 := pq_vn hV
  have hF : pq_V (pq_ff r 0 n ((Int32.ofNat r + 1) * Int32.ofNat s) g).2 n p N := by
    rw [pq_Ww]
    exact pq_ffV hr hN n 0 _ g (by have := pq_Wb hs hr; omega) (by omega) hV
  unfold pq_ro
  generalize (pq_ff r 0 n ((Int32.ofNat r + 1) * Int32.ofNat s) g).2 = G at hF
  refine pq_Vk hF ⟨by rw [pq_udN (by omega), pq_udN (by omega)]; exact pq_v0 hF, h8⟩ ⟨by rw [pq_udN (by omega), pq_udN (by omega)]; exact pq_v1 hF, pq_vp hV⟩ (Or.inl (by rw [pq_udN (by omega), pq_udN (by omega)])) (Or.inl (by rw [pq_udN (by omega), pq_udN (by omega)])) (Or.inl (by rw [pq_udN (by omega), pq_udN (by omega)])) (fun r' hr' => ?_) (fun b hb => Or.inl ⟨hb, fun k hk => by rw [pq_udN (by omega), pq_udN (by omega)]⟩) (fun j hj => Or.inl ⟨hj, by rw [pq_udN (by omega), pq_udN (by omega)], by rw [pq_udN (by omega), pq_udN (by omega)]⟩)
  by_cases e : r' = r
  · subst e
    refine Or.inr ?_
    rw [pq_udE]
    obtain ⟨v, hv, ev⟩ := pq_natL (n := 9) (pq_vm hV hr).1 (pq_vm hV hr).2 (by decide)
    rw [ev]
    exact pq_moN v (by omega) s (by omega)
  · exact Or.inl (by rw [pq_udN (by omega), pq_udN (by omega)])
theorem pq_rsV {s : Nat} (hN : N ≤ 900) (hs : s ≤ 9) : ∀ (d i : Nat) (a : Int32) (g : Nat → Int32), i + d = 4 → pq_V g n p N → pq_V (pq_rs (Int32.ofNat s) n i d a g).2 n p N := by
  intro d
  induction d with
  | zero => intro i a g _ hV; exact hV
  | succ d ih => intro i a g hi hV; rw [pq_rs]; exact ih (i + 1) _ _ (by omega) (pq_roV hV hN hs (by omega))
/-- how much came is a natural number -/
theorem pq_rsA {s : Nat} (hs : s ≤ 9) : ∀ (d i A : Nat) (g : Nat → Int32), i + d = 4 → ∃ A', A' ≤ A + 36 * d ∧ (pq_rs (Int32.ofNat s) n i d (Int32.ofNat A) g).1 = Int32.ofNat A' := by
  intro d
  induction d with
  | zero => intro i A g _; exact ⟨A, by omega, rfl⟩
  | succ d ih =>
    intro i A g hi
    have hb := pq_Wb hs (show i < 4 by omega)
    obtain ⟨l, hl, el⟩ := pq_ffL (r := i) n 0 ((i + 1) * s) g (by omega)
    obtain ⟨A', h1, e1⟩ := ih (i + 1) (A + ((i + 1) * s - l)) (pq_ro (Int32.ofNat s) n i g) (by omega)
    refine ⟨A', by omega, ?_⟩
    rw [pq_rs, pq_Ww, el, ← Int32.ofNat_sub _ _ hl, ← Int32.ofNat_add]
    exact e1
/-- what did not come is lost -/
theorem pq_rs7 {s : Int32} : ∀ (d i : Nat) (a B : Int32) (g : Nat → Int32), i + d = 4 → (pq_rs s n i d a g).2 7 + (pq_rs s n i d a g).1 + B = g 7 + a + pq_fd (fun r a => a + (Int32.ofNat r + 1) * s) i d B := by
  intro d
  induction d with
  | zero => intro i a B g _; rfl
  | succ d ih =>
    intro i a B g hi
    have e := ih (i + 1) (a + ((Int32.ofNat i + 1) * s - (pq_ff i 0 n ((Int32.ofNat i + 1) * s) g).1)) (B + (Int32.ofNat i + 1) * s) (pq_ro s n i g) (by omega)
    have e7 : pq_ro s n i g 7 = g 7 + (pq_ff i 0 n ((Int32.ofNat i + 1) * s) g).1 := by unfold pq_ro; rw [pq_udN (by omega), pq_udE]
    rw [e7] at e
    rw [pq_rs, pq_fd]
    generalize (pq_ff i 0 n ((Int32.ofNat i + 1) * s) g).1 = F at e ⊢
    generalize (Int32.ofNat i + 1) * s = W at e ⊢
    generalize (pq_rs s n (i + 1) d (a + (W - F)) (pq_ro s n i g)).2 7 = X at e ⊢
    generalize (pq_rs s n (i + 1) d (a + (W - F)) (pq_ro s n i g)).1 = Y at e ⊢
    generalize pq_fd (fun r a => a + (Int32.ofNat r + 1) * s) (i + 1) d (B + W) = Z at e ⊢
    grind
/-- the class, roof by roof -/
theorem qo_s7 (hX : pq_X rf x) {S : Nat → Prop} (hn : n ≤ 8) (hS7 : ¬ S 7) (hS0 : S 0) (hS3 : S 3) (hS4 : S 4) (hSm : ∀ r, r < 4 → S (11 + r)) (hSb : ∀ b, b < n → ∀ k, k < 6 → S (15 + 6 * b + k)) (s v2 : Int32) : ∀ (d fu i : Nat) (σ : rc_S) (g : Nat → Int32) (a : Int32), i + d = 4 → pq_S σ (x + 2) g S → g 0 = Int32.ofNat n → ∃ t, (∀ K : Int32 → Int32 → rc_S → Option (Int32 × rc_S), f_X7_letStormBy_34 rf (x + 1) s v2 K (fu + d + 1) a (Int32.ofNat i) σ = K (pq_rs s n i d a g).1 (Int32.ofNat 4) t) ∧ pq_S t (x + 2) (pq_rs s n i d a g).2 S ∧ ∀ q, q ≠ x + 2 + 1 → (q < x + 2 + 7 ∨ x + 2 + 15 ≤ q) → t q = σ q := by
  have hK := pq_xk hX
  intro d
  induction d with
  | zero =>
    intro fu i σ g a h hs h0
    have hi : i = 4 := by omega
    subst hi
    refine ⟨σ, fun K => ?_, hs, fun _ _ _ => rfl⟩
    rw [f_X7_letStormBy_34, if_pos (by decide)]; rfl
  | succ d ih =>
    intro fu i σ g a h hs h0
    have hni : (4 ≤ i) = False := by simp; omega
    obtain ⟨t1, f1, f2, f3⟩ := qo_f7 (n := n) hX (r := i) (by omega) hn hS0 hS3 hS4 (hSm i (by omega)) hSb ((Int32.ofNat i + 1) * s) n (99999 - n) 0 σ g ((Int32.ofNat i + 1) * s) (by omega) hs h0
    rw [← pq_fu n (by omega), show Int32.ofNat 0 = (0 : Int32) from rfl] at f1
    have m1 : t1 (x + 2 + 1) i = g (11 + i) := by
      have e := f2 (11 + i) (by omega) (hSm i (by omega))
      rw [(pq_adm (by omega)).1, (pq_adm (by omega)).2, pq_ffN n 0 _ g _ (by omega)] at e; exact e
    have s1 : pq_S (rc_up t1 (x + 2 + 1) i (pq_mo (g (11 + i)) s)) (x + 2) (pq_ro s n i g) S := by
      unfold pq_ro
      refine fun j hj hS => ?_
      have e := pq_Sm f2 (r := i) (by omega) (pq_mo (g (11 + i)) s) j hj (Or.inl hS)
      rw [e]
      have h7 : j ≠ 7 := fun q => hS7 (by rw [← q]; exact hS)
      simp only [upd, h7, if_false]
    obtain ⟨t, e1, e2, e3⟩ := ih fu (i + 1) _ _ (a + ((Int32.ofNat i + 1) * s - (pq_ff i 0 n ((Int32.ofNat i + 1) * s) g).1)) (by omega) s1 (by rw [pq_roN 0 (by omega) (by omega) (by omega)]; exact h0)
    rw [pq_rs]
    refine ⟨t, fun K => ?_, e2, fun q q1 q2 => by rw [e3 q q1 q2, pq_upN q1]; exact f3 q (by omega)⟩
    rw [show fu + (d + 1) + 1 = (fu + d + 1) + 1 from rfl, f_X7_letStormBy_34]
    simp (disch := omega) only [pq_le4, hni, if_false, f_X8_litresOnRoof, pq_bd, f_X7_fillUnder, f1, rc_lt, pq_in, pq_ck, pq_cl, pq_w0 hX, pq_k0 hK, m1]
    rw [show Int32.ofNat i + 1 = Int32.ofNat (i + 1) from pq_s] at e1 ⊢
    exact e1 K
/-- the reference, roof by roof -/
theorem qo_s9 (hM : pq_M rf m) (hN : N ≤ 900) {s : Nat} (hs9 : s ≤ 9) (v2 : Int32) : ∀ (d fu i : Nat) (σ : rc_S) (g : Nat → Int32) (a : Int32), i + d = 4 → σ (m + 1) = g → pq_V g n p N → ∃ t, (∀ K : Int32 → Int32 → rc_S → Option (Int32 × rc_S), f_X9_storms_31 rf m (Int32.ofNat s) v2 K (fu + d + 1) a (Int32.ofNat i) σ = K (pq_rs (Int32.ofNat s) n i d a g).1 (Int32.ofNat 4) t) ∧ t (m + 1) = (pq_rs (Int32.ofNat s) n i d a g).2 ∧ ∀ q, q ≠ m + 1 → t q = σ q := by
  intro d
  induction d with
  | zero =>
    intro fu i σ g a h hs hV
    have hi : i = 4 := by omega
    subst hi
    refine ⟨σ, fun K => ?_, hs, fun _ _ => rfl⟩
    rw [f_X9_storms_31, if_pos (by decide)]; rfl
  | succ d ih =>
    intro fu i σ g a h hs hV
    have h8 := pq_vn hV
    have hni : (4 ≤ i) = False := by simp; omega
    have hb := pq_Wb hs9 (show i < 4 by omega)
    obtain ⟨t1, f1, f2, f3⟩ := qo_f9 (n := n) hM (r := i) (by omega) h8 (Int32.ofNat s) n (99999 - n) 0 σ g ((Int32.ofNat i + 1) * Int32.ofNat s) (by omega) hs (pq_v0 hV) (fun b _ hb => Int.le_trans (pq_vh hV hb).1 (pq_vh hV hb).2.1)
    rw [← pq_fu n (by omega), show Int32.ofNat 0 = (0 : Int32) from rfl] at f1
    have ec : pq_cg g n (Int32.ofNat s) i = (Int32.ofNat i + 1) * Int32.ofNat s - (pq_ff i 0 n ((Int32.ofNat i + 1) * Int32.ofNat s) g).1 := by
      unfold pq_cg
      rw [pq_Ww, pq_ffc n 0 _ g g (by omega) (fun _ _ => rfl)]
    have r1 : (rc_up (rc_up t1 (m + 1) 7 (g 7 + (pq_ff i 0 n ((Int32.ofNat i + 1) * Int32.ofNat s) g).1)) (m + 1) (11 + i) (pq_mo (g (11 + i)) (Int32.ofNat s))) (m + 1) = pq_ro (Int32.ofNat s) n i g := by
      rw [pq_upE, pq_upE, f2]; rfl
    have g7 : (pq_ff i 0 n ((Int32.ofNat i + 1) * Int32.ofNat s) g).2 7 = g 7 := pq_ffN n 0 _ g _ (by omega)
    have gm : (pq_ff i 0 n ((Int32.ofNat i + 1) * Int32.ofNat s) g).2 (11 + i) = g (11 + i) := pq_ffN n 0 _ g _ (by omega)
    have fl : f_X9_fills rf m (Int32.ofNat i) (Int32.ofNat s) σ = some ((), rc_up (rc_up t1 (m + 1) 7 (g 7 + (pq_ff i 0 n ((Int32.ofNat i + 1) * Int32.ofNat s) g).1)) (m + 1) (11 + i) (pq_mo (g (11 + i)) (Int32.ofNat s))) := by
      have f1' := f1 (fun v3_25 σ_27 =>
    rc_lt (rc_up σ_27 (rf m 1) 7 ((σ_27 (rf m 1) 7) + v3_25)) fun σ_28 =>
    rc_ck (rc_in ((11 : Int32) + Int32.ofNat i) 107) <|
    rc_lt ((σ_28 (rf m 1) ((11 : Int32) + Int32.ofNat i).toNatClampNeg) - (Int32.ofNat s / (3 : Int32))) fun v4_30 =>
    if 0 ≤ v4_30 then
      rc_ck (rc_in ((11 : Int32) + Int32.ofNat i) 107) <|
      rc_lt (rc_up σ_28 (rf m 1) ((11 : Int32) + Int32.ofNat i).toNatClampNeg v4_30) fun σ_32 =>
      some ((), σ_32)
    else
      rc_ck (rc_in ((11 : Int32) + Int32.ofNat i) 107) <|
      rc_lt (rc_up σ_28 (rf m 1) ((11 : Int32) + Int32.ofNat i).toNatClampNeg (0 : Int32)) fun σ_34 =>
      some ((), σ_34))
      rw [f_X9_fills, rc_lt]
      refine Eq.trans f1' ?_
      simp (disch := omega) only [pq_m1 hM, rc_lt, pq_mx, pq_in, pq_ck, pq_cl, pq_upE, pq_udN, f2, g7, gm, pq_mo]
      by_cases hc : 0 ≤ g (11 + i) - Int32.ofNat s / 3
      · rw [if_pos hc, if_neg (Int32.not_lt.mpr hc)]
      · rw [if_neg hc, if_pos (Int32.not_le.mp hc)]
    obtain ⟨t, e1, e2, e3⟩ := ih fu (i + 1) _ _ (a + ((Int32.ofNat i + 1) * Int32.ofNat s - (pq_ff i 0 n ((Int32.ofNat i + 1) * Int32.ofNat s) g).1)) (by omega) r1 (pq_roV hV hN hs9 (by omega))
    rw [pq_rs]
    refine ⟨t, fun K => ?_, e2, fun q hq => by rw [e3 q hq, pq_upN hq, pq_upN hq, f3 q hq]⟩
    rw [show fu + (d + 1) + 1 = (fu + d + 1) + 1 from rfl, f_X9_storms_31]
    simp (disch := omega) only [pq_le4, hni, if_false, q9_caught hM hs hV, pq_bd, rc_lt, ec, fl]
    rw [show Int32.ofNat i + 1 = Int32.ofNat (i + 1) from pq_s] at e1 ⊢
    exact e1 K

theorem qo_storm (hX : pq_X rf x) {u h : Int32} : pq_Op x (f_X7_letStormBy rf (x + 1) u h) (f_X9_storms rf (x + 308) u h) := by
  intro σ n p Bd g hR hV hB
  have hK := pq_xk hX
  have hM := pq_xm hX
  have h8 := pq_vn hV
  have h4 := pq_vp hV
  have hS := pq_RS hR h8 h4
  by_cases h1 : ¬ u < 1 ∧ ¬ 9 < u
  · by_cases h2 : ¬ h < 0 ∧ ¬ 3 < h
    · obtain ⟨s, s1, s9, rfl⟩ := pq_9 h1
      obtain ⟨hh, hh4, rfl⟩ := pq_4b h2
      have hS7 : pq_S σ (x + 2) g (fun i => pq_lv n p i ∧ i ≠ 7) := fun i hi hl => hS i hi hl.1
      obtain ⟨t, e1, e2, e3⟩ := qo_s7 (n := n) hX h8 (S := fun i => pq_lv n p i ∧ i ≠ 7) (fun q => q.2 rfl) ⟨Or.inl (by omega), by omega⟩ ⟨Or.inl (by omega), by omega⟩ ⟨Or.inl (by omega), by omega⟩ (fun r hr => ⟨Or.inl (by omega), by omega⟩) (fun b hb k hk => ⟨Or.inr (Or.inl (by omega)), by omega⟩) (Int32.ofNat s) (Int32.ofNat hh) 4 (99999 - 4) 0 σ g 0 (by omega) hS7 (pq_v0 hV)
      rw [← pq_fu 4 (by omega), show Int32.ofNat 0 = (0 : Int32) from rfl] at e1
      obtain ⟨A, hA, eA⟩ := pq_rsA (n := n) s9 4 0 0 g (by omega)
      rw [show Int32.ofNat 0 = (0 : Int32) from rfl] at eA
      have e7 := pq_rs7 (n := n) (s := Int32.ofNat s) 4 0 0 0 g (by omega)
      have V5 := pq_rsV (n := n) (p := p) hB s9 4 0 0 g (by omega) hV
      have gN : ∀ j, j ≠ 7 → (j < 11 ∨ 15 + 6 * n ≤ j) → (pq_rs (Int32.ofNat s) n 0 4 0 g).2 j = g j := fun j h7 hj => pq_rsN 4 0 0 g j (by omega) h7 hj
      have fdE : pq_fd (fun r a => a + (Int32.ofNat r + 1) * Int32.ofNat s) 0 4 0 = 10 * Int32.ofNat s := by simp only [pq_fd]; rw [pq_10s]
      rw [fdE] at e7
      have eR : ∀ (τ : rc_S), τ (x + 308 + 1) = g → _ := fun τ hτ => qo_s9 (n := n) hM hB s9 (Int32.ofNat hh) 4 (99999 - 4) 0 τ g 0 (by omega) hτ hV
      rw [eA] at e1 e7
      generalize hG : (pq_rs (Int32.ofNat s) n 0 4 0 g).2 = G at e2 e7 V5 gN eR
      generalize hA2 : (pq_rs (Int32.ofNat s) n 0 4 0 g).1 = A2 at eA eR
      have eL : g 7 + (10 * Int32.ofNat s - Int32.ofNat A) = G 7 := pq_eL e7
      have tc : t (x + 2) = σ (x + 2) := e3 _ (by omega) (by omega)
      obtain ⟨T, hT, eT⟩ := pq_natL (n := Bd) (pq_v4 hV).1 (pq_v4 hV).2 (by omega)
      obtain ⟨Bk, hBk, eB⟩ := pq_natL (n := 9) (pq_v2 hV).1 (pq_v2 hV).2 (by decide)
      have hq := pq_m12 (s := T)
      have eb : ∃ k, k ≤ 9 ∧ (if (9 : Int32) < g 2 + 2 * Int32.ofNat hh then 9 else g 2 + 2 * Int32.ofNat hh) = Int32.ofNat k := by
        have e : g 2 + 2 * Int32.ofNat hh = Int32.ofNat (Bk + 2 * hh) := by rw [eB, Int32.ofNat_add, Int32.ofNat_mul]; rfl
        rw [e]
        by_cases h9 : 9 < Bk + 2 * hh
        · rw [if_pos (show (9 : Int32) < Int32.ofNat (Bk + 2 * hh) from (pq_lt (n := 9) (by decide) (by omega)).mpr h9)]; exact ⟨9, by omega, rfl⟩
        · rw [if_neg (show ¬ (9 : Int32) < Int32.ofNat (Bk + 2 * hh) from fun q => h9 ((pq_lt (n := 9) (by decide) (by omega)).mp q))]; exact ⟨_, by omega, rfl⟩
      obtain ⟨kb, hkb, ekb⟩ := eb
      refine Or.inr ⟨Int32.ofNat A, rc_up (rc_up (rc_up (rc_up (rc_up (rc_up (rc_up t (x + 2) 8 (g 5 + Int32.ofNat A)) (x + 2) 10 (G 7)) (x + 2) 6 (Int32.ofNat kb)) (x + 2 + 15 + T % 12) 0 (Int32.ofNat s)) (x + 2 + 15 + T % 12) 1 (g 3)) (x + 2 + 15 + T % 12) 2 (Int32.ofNat A)) (x + 2) 5 (Int32.ofNat (T + 1)), upd (upd (upd (upd (upd (upd (upd G 5 (g 5 + Int32.ofNat A)) 7 (G 7)) 2 (Int32.ofNat kb)) (71 + 3 * (T % 12) + 0) (Int32.ofNat s)) (71 + 3 * (T % 12) + 1) (g 3)) (71 + 3 * (T % 12) + 2) (Int32.ofNat A)) 4 (Int32.ofNat (T + 1)), n, p, pq_nnN (by omega), ?_, fun a ha => by simp (disch := omega) only [pq_upN]; exact e3 a (by omega) (by omega), pq_SR (pq_Sc4 (pq_Sq (pq_Sq (pq_Sq (pq_Sc2 (pq_Sc7 (pq_Sc5 e2 _) _) _) hq 0 (by omega) _) hq 1 (by omega) _) hq 2 (by omega) _) _) h8 h4 (fun j hj hl => ?_), ?_, fun τ hτ => ?_⟩
      · rw [f_X7_letStormBy, q8_out, if_pos h1, pq_bd, if_pos rfl, q8_out, if_pos h2, pq_bd, if_pos rfl, e1, pq_w0 hX, rc_lt, q8_allRoofs, pq_bd]
        simp (disch := omega) only [q8_out, q5_bec, pq_w0 hX, pq_w1 hX, pq_k0 hK, pq_k1 hK, pq_k3 hK, pq_k4 hK, pq_kp hK, pq_ks hK, pq_bd, pq_ck, pq_bx, rc_lt, pq_i10, pq_i01, not_false_eq_true, not_true_eq_false, and_self, and_true, true_and, and_false, false_and, or_true, true_or, or_false, false_or, if_true, if_false, ↓reduceIte, Decidable.not_not, ne_eq, Int32.reduceLE, Int32.reduceLT, pq_nes, eq_self, tc, pq_c5 hR, pq_c7 hR, pq_c2 hR, pq_upE, pq_udN, pq_upN, eL, ekb, f_X7_tell, f_X1_rainfallOf, pq_c4 hR, eT, pq_fm12, pq_in, pq_cl, pq_kr hK, pq_c3 hR, pq_s]
      · by_cases hj7 : j = 7
        · subst hj7; exact Or.inl (Or.inl (Or.inl (Or.inl (Or.inl (Or.inr rfl)))))
        · exact Or.inl (Or.inl (Or.inl (Or.inl (Or.inl (Or.inl (Or.inl ⟨hl, hj7⟩))))))
      · refine pq_Vn V5 ⟨by simp (disch := omega) only [pq_udN]; exact pq_v0 V5, h8⟩ ⟨by simp (disch := omega) only [pq_udN]; exact pq_v1 V5, h4⟩ (Or.inr (by simp (disch := omega) only [pq_udN, pq_udE]; rw [pq_ti (by omega)]; omega)) (Or.inl (by simp (disch := omega) only [pq_udN])) (Or.inr (by rw [pq_udE, pq_ti (by omega)]; omega)) (fun r hr => Or.inl (by simp (disch := omega) only [pq_udN])) (fun b hb => Or.inl ⟨hb, fun k hk => by simp (disch := omega) only [pq_udN]⟩) (fun j hj => Or.inl ⟨hj, by simp (disch := omega) only [pq_udN], by simp (disch := omega) only [pq_udN]⟩)
      · obtain ⟨t2, u1, u2, u3⟩ := eR τ hτ
        rw [← pq_fu 4 (by omega), show Int32.ofNat 0 = (0 : Int32) from rfl] at u1
        rw [eA] at u1
        have md : (71 : Int32) + 3 * (Int32.ofNat T - Int32.ofNat T / 12 * 12) = Int32.ofNat (71 + 3 * (T % 12)) := by rw [pq_md12 (by omega), Int32.ofNat_add, Int32.ofNat_mul]; rfl
        have md1 : Int32.ofNat (71 + 3 * (T % 12)) + 1 = Int32.ofNat (71 + 3 * (T % 12) + 1) := pq_s
        have md2 : Int32.ofNat (71 + 3 * (T % 12)) + 2 = Int32.ofNat (71 + 3 * (T % 12) + 2) := q9_l2
        have g4 : G 4 = Int32.ofNat T := by rw [gN 4 (by omega) (by omega), eT]
        have bb : (if g 2 + 2 * Int32.ofNat hh ≤ 9 then g 2 + 2 * Int32.ofNat hh else 9) = Int32.ofNat kb := by rw [← ekb]; exact pq_eM _
        refine ⟨rc_up (rc_up (rc_up (rc_up (rc_up (rc_up (rc_up t2 (x + 308 + 1) (71 + 3 * (T % 12)) (Int32.ofNat s)) (x + 308 + 1) (71 + 3 * (T % 12) + 1) (g 3)) (x + 308 + 1) (71 + 3 * (T % 12) + 2) (Int32.ofNat A)) (x + 308 + 1) 4 (Int32.ofNat (T + 1))) (x + 308 + 1) 5 (g 5 + Int32.ofNat A)) (x + 308 + 1) 2 (Int32.ofNat kb)) (x + 308) 17 (Int32.ofNat A), ?_, pq_fin ?_ (fun a ha => by simp only [pq_upN ha]; exact u3 a ha)⟩
        · rw [f_X9_storms, q9_in, if_pos h1, pq_bd, if_neg (by decide), q9_in, if_pos h2, pq_bd, if_neg (by decide), u1]
          simp (disch := omega) only [q9_in, q9_ref, pq_m1 hM, hτ, pq_bd, pq_ck, pq_bx, rc_lt, pq_i10, pq_i01, not_false_eq_true, not_true_eq_false, and_self, and_true, true_and, and_false, false_and, or_true, true_or, or_false, false_or, if_true, if_false, ↓reduceIte, Decidable.not_not, ne_eq, Int32.reduceLE, Int32.reduceLT, pq_nes, eq_self, u2, g4, md, md1, md2, pq_in, pq_cl, pq_upE, pq_udN, pq_udE, gN 3 (show 3 ≠ 7 by omega) (Or.inl (show 3 < 11 by omega)), gN 5 (show 5 ≠ 7 by omega) (Or.inl (show 5 < 11 by omega)), gN 2 (show 2 ≠ 7 by omega) (Or.inl (show 2 < 11 by omega)), pq_s, q9_don]
          by_cases hc : g 2 + 2 * Int32.ofNat hh ≤ 9
          · rw [if_pos hc] at bb ⊢
            rw [bb]
          · rw [if_neg hc] at bb ⊢
            rw [bb]
        · simp only [pq_upE, u2]
          funext j
          simp only [upd]
          repeat' split
          all_goals first | rfl | omega | (subst_vars; rfl)
    · refine Or.inl ⟨1, 0, by decide, ?_, fun τ hτ => ?_⟩
      · rw [f_X7_letStormBy, q8_out, if_pos h1, pq_bd, if_pos rfl, q8_out, if_neg h2, pq_bd, if_neg (by decide), pq_w1 hX, q5_bec, pq_bd]
      · rw [f_X9_storms, q9_in, if_pos h1, pq_bd, if_neg (by decide), q9_in, if_neg h2, pq_bd, if_pos rfl, q9_ref, pq_bd]
  · refine Or.inl ⟨1, 0, by decide, ?_, fun τ hτ => ?_⟩
    · rw [f_X7_letStormBy, q8_out, if_neg h1, pq_bd, if_neg (by decide), pq_w1 hX, q5_bec, pq_bd]
    · rw [f_X9_storms, q9_in, if_neg h1, pq_bd, if_pos rfl, q9_ref, pq_bd]
end PQST
