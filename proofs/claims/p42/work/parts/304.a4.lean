section PQOP4
variable {rf : rc_F} {x c m : Nat} {σ : rc_S} {g : Nat → Int32} {n p N b : Nat}
/-- an empty barrel becomes of the vintage of the other -/
def pq_vt1 (g : Nat → Int32) (f t : Nat) : Nat → Int32 := if g (16 + 6 * t) = 0 then upd (upd (upd g (18 + 6 * t) (g (18 + 6 * f))) (20 + 6 * t) (g (20 + 6 * f))) (19 + 6 * t) (g (19 + 6 * f)) else g
theorem pq_vtN {f t : Nat} (j : Nat) (h : j < 18 + 6 * t ∨ 21 + 6 * t ≤ j) : pq_vt1 g f t j = g j := by
  unfold pq_vt1
  split
  · simp (disch := omega) only [pq_udN]
  · rfl
theorem pq_vtE {f t : Nat} : pq_vt1 g f t (18 + 6 * t) = (if g (16 + 6 * t) = 0 then g (18 + 6 * f) else g (18 + 6 * t)) ∧ pq_vt1 g f t (19 + 6 * t) = (if g (16 + 6 * t) = 0 then g (19 + 6 * f) else g (19 + 6 * t)) ∧ pq_vt1 g f t (20 + 6 * t) = (if g (16 + 6 * t) = 0 then g (20 + 6 * f) else g (20 + 6 * t)) := by
  unfold pq_vt1
  by_cases h : g (16 + 6 * t) = 0
  · simp (disch := omega) only [h, if_true, pq_udN, pq_udE, and_self]
  · simp only [h, if_false, and_self]
/-- the row after the pouring -/
def pq_pr (g : Nat → Int32) (f t : Nat) (u wl : Int32) : Nat → Int32 := upd (upd (pq_go (pq_vt1 g f t) f u wl) (17 + 6 * t) (g (17 + 6 * t) + wl)) (16 + 6 * t) (g (16 + 6 * t) + u)
/-- the class pours -/
theorem q0_pour {S : Nat → Prop} (h : pq_S σ c g S) {f t : Nat} (hf : f < 8) (ht : t < 8) (hft : f ≠ t) (hl0 : 0 ≤ (g (16 + 6 * f)).toInt) (hSf : ∀ k, k < 6 → S (15 + 6 * f + k)) (hSt : ∀ k, k < 6 → S (15 + 6 * t + k)) {u : Int32} : ∃ s, f_X0_pourIn rf (c + 7 + t) (c + 7 + f) u σ = some ((), s) ∧ pq_S s c (pq_pr g f t u (pq_hi g f u)) S ∧ (∀ a, a ≠ c + 7 + f → a ≠ c + 7 + t → s a = σ a) ∧ s (c + 7 + t) 1 = g (16 + 6 * t) + u := by
  have vv := fun (z : Nat) (hz : z < 8) (hS : ∀ k, k < 6 → S (15 + 6 * z + k)) (k : Nat) (hk : k < 6) => h (15 + 6 * z + k) (by omega) (hS k hk)
  have vt1 := vv t ht hSt 1 (by omega)
  have vt2 := vv t ht hSt 2 (by omega)
  have vf3 := vv f hf hSf 3 (by omega)
  have vf4 := vv f hf hSf 4 (by omega)
  have vf5 := vv f hf hSf 5 (by omega)
  rw [(pq_adb ht (by omega)).1, (pq_adb ht (by omega)).2, ← Nat.add_assoc] at vt1 vt2
  rw [(pq_adb hf (by omega)).1, (pq_adb hf (by omega)).2, ← Nat.add_assoc] at vf3 vf4 vf5
  rw [show 15 + 6 * t + 1 = 16 + 6 * t by omega] at vt1
  rw [show 15 + 6 * t + 2 = 17 + 6 * t by omega] at vt2
  rw [show 15 + 6 * f + 3 = 18 + 6 * f by omega] at vf3
  rw [show 15 + 6 * f + 4 = 19 + 6 * f by omega] at vf4
  rw [show 15 + 6 * f + 5 = 20 + 6 * f by omega] at vf5
  have vt1 : σ (c + 7 + t) 1 = g (16 + 6 * t) := vt1
  have vt2 : σ (c + 7 + t) 2 = g (17 + 6 * t) := vt2
  have vf3 : σ (c + 7 + f) 3 = g (18 + 6 * f) := vf3
  have vf4 : σ (c + 7 + f) 5 = g (19 + 6 * f) := vf4
  have vf5 : σ (c + 7 + f) 4 = g (20 + 6 * f) := vf5
  have hS16 : S (16 + 6 * f) := by have := hSf 1 (by omega); rw [show 15 + 6 * f + 1 = 16 + 6 * f by omega] at this; exact this
  have hS17 : S (17 + 6 * f) := by have := hSf 2 (by omega); rw [show 15 + 6 * f + 2 = 17 + 6 * f by omega] at this; exact this
  have gf16 : pq_vt1 g f t (16 + 6 * f) = g (16 + 6 * f) := pq_vtN _ (by omega)
  have gf17 : pq_vt1 g f t (17 + 6 * f) = g (17 + 6 * f) := pq_vtN _ (by omega)
  have eh : pq_hi (pq_vt1 g f t) f u = pq_hi g f u := by unfold pq_hi pq_P; rw [gf16, gf17]
  by_cases h0 : g (16 + 6 * t) = 0
  · have h1 : pq_S (rc_up (rc_up (rc_up σ (c + 7 + t) 3 (g (18 + 6 * f))) (c + 7 + t) 4 (g (20 + 6 * f))) (c + 7 + t) 5 (g (19 + 6 * f))) c (pq_vt1 g f t) S := by
      unfold pq_vt1
      rw [if_pos h0]
      exact fun i hi hS => pq_Sb4 (pq_Sb5 (pq_Sb3 h ht _) ht _) ht _ i hi (Or.inl (Or.inl (Or.inl hS)))
    obtain ⟨s, e1, e2, e3⟩ := q0_go (rf := rf) h1 hf (by rw [gf16]; exact hl0) hS16 hS17 (u := u)
    rw [eh] at e1 e2
    refine ⟨rc_up (rc_up s (c + 7 + t) 2 (g (17 + 6 * t) + pq_hi g f u)) (c + 7 + t) 1 (g (16 + 6 * t) + u), ?_, fun i hi hS => pq_Sb1 (pq_Sb2 e2 ht _) ht _ i hi (Or.inl (Or.inl hS)), fun a a1 a2 => by rw [pq_upN a2, pq_upN a2, e3 a a1, pq_upN a2, pq_upN a2, pq_upN a2], by rw [pq_upE, pq_udE]⟩
    simp (disch := omega) only [f_X0_pourIn, q0_empty, vt1, h0, if_true, pq_bd, pq_i10, f_X0_copyVintage, rc_lt, pq_upN, vf3, vf5, vf4, e1, pq_upE, pq_udN, pq_udE, vt2, e3]
    rw [if_neg (by decide)]
  · have h1 : pq_S σ c (pq_vt1 g f t) S := by
      unfold pq_vt1
      rw [if_neg h0]
      exact h
    obtain ⟨s, e1, e2, e3⟩ := q0_go (rf := rf) h1 hf (by rw [gf16]; exact hl0) hS16 hS17 (u := u)
    rw [eh] at e1 e2
    refine ⟨rc_up (rc_up s (c + 7 + t) 2 (g (17 + 6 * t) + pq_hi g f u)) (c + 7 + t) 1 (g (16 + 6 * t) + u), ?_, fun i hi hS => pq_Sb1 (pq_Sb2 e2 ht _) ht _ i hi (Or.inl (Or.inl hS)), fun a a1 a2 => by rw [pq_upN a2, pq_upN a2, e3 a a1], by rw [pq_upE, pq_udE]⟩
    simp (disch := omega) only [f_X0_pourIn, q0_empty, vt1, h0, if_false, if_true, pq_bd, rc_lt, e1, pq_upE, pq_udN, pq_udE, vt2, e3, pq_upN]
end PQOP4

theorem pq_Vk {g g' : Nat → Int32} {n p N n' p' : Nat} (h : pq_V g n p N) (h0 : g' 0 = Int32.ofNat n' ∧ n' ≤ 8) (h1 : g' 1 = Int32.ofNat p' ∧ p' ≤ 4) (h2 : g' 2 = g 2 ∨ (0 ≤ (g' 2).toInt ∧ (g' 2).toInt ≤ 9)) (h3 : g' 3 = g 3 ∨ ((g 3).toInt ≤ (g' 3).toInt ∧ (g' 3).toInt ≤ N)) (h4 : g' 4 = g 4 ∨ (0 ≤ (g' 4).toInt ∧ (g' 4).toInt ≤ N))
    (hm : ∀ r, r < 4 → g' (11 + r) = g (11 + r) ∨ (0 ≤ (g' (11 + r)).toInt ∧ (g' (11 + r)).toInt ≤ 9))
    (hb : ∀ b, b < n' → (b < n ∧ ∀ k, k < 6 → g' (15 + 6 * b + k) = g (15 + 6 * b + k)) ∨ pq_vB (g' 3) (g' (15 + 6 * b)) (g' (16 + 6 * b)) (g' (17 + 6 * b)) (g' (18 + 6 * b)) (g' (19 + 6 * b)) (g' (20 + 6 * b)) (N))
    (hp : ∀ j, j < p' → (j < p ∧ g' (63 + 2 * j) = g (63 + 2 * j) ∧ g' (64 + 2 * j) = g (64 + 2 * j)) ∨ ((0 ≤ (g' (63 + 2 * j)).toInt ∧ (g' (63 + 2 * j)).toInt ≤ 9) ∧ (g' (64 + 2 * j) = 0 ∨ g' (64 + 2 * j) = 1))) : pq_V g' n' p' N := by
  have y3 : (g 3).toInt ≤ (g' 3).toInt := by rcases h3 with q | q; rw [q]; exact Int.le_refl _; exact q.1
  refine ⟨h0, h1, ?_, ⟨?_, ?_⟩, ?_, fun r hr => ?_, fun b hb' => ?_, fun j hj => ?_⟩
  · rcases h2 with q | q; rw [q]; exact pq_v2 h; exact q
  · have := (pq_v3 h).1; omega
  · rcases h3 with q | q; rw [q]; have := (pq_v3 h).2; omega; have := q.2; omega
  · rcases h4 with q | q; rw [q]; have := pq_v4 h; omega; exact ⟨q.1, by have := q.2; omega⟩
  · rcases hm r hr with q | q; rw [q]; exact pq_vm h hr; exact q
  · rcases hb b hb' with q | q
    · have e0 := q.2 0 (by omega); have e1 := q.2 1 (by omega); have e2 := q.2 2 (by omega); have e3 := q.2 3 (by omega); have e4 := q.2 4 (by omega); have e5 := q.2 5 (by omega)
      rw [show 15 + 6 * b + 1 = 16 + 6 * b by omega] at e1
      rw [show 15 + 6 * b + 2 = 17 + 6 * b by omega] at e2
      rw [show 15 + 6 * b + 3 = 18 + 6 * b by omega] at e3
      rw [show 15 + 6 * b + 4 = 19 + 6 * b by omega] at e4
      rw [show 15 + 6 * b + 5 = 20 + 6 * b by omega] at e5
      rw [Nat.add_zero] at e0
      have z := pq_VB h q.1
      rw [e0, e1, e2, e3, e4, e5]
      exact ⟨z.1, z.2.1, ⟨z.2.2.1.1, by have := z.2.2.1.2; omega⟩, z.2.2.2.1, ⟨z.2.2.2.2.1.1, Int.le_trans z.2.2.2.2.1.2 y3⟩, z.2.2.2.2.2.1, z.2.2.2.2.2.2⟩
    · exact q
  · rcases hp j hj with q | q
    · rw [q.2.1, q.2.2]; exact ⟨pq_vpp h q.1, pq_vps h q.1⟩
    · exact q
theorem pq_eL {G A g s : Int32} (h : G + A + 0 = g + 0 + s) : g + (s - A) = G := by grind
theorem pq_eM (t : Int32) : (if t ≤ 9 then t else 9) = (if 9 < t then 9 else t) := by grind
/-! a storm -/
def pq_q20 (L : Int32) : Int32 := if 20 < L then 20 else L
def pq_f1 (r b : Nat) (L : Int32) (g : Nat → Int32) : Int32 × (Nat → Int32) := if ¬ L ≤ 0 ∧ g (15 + 6 * b) = Int32.ofNat r ∧ g (16 + 6 * b) = 0 then (L - pq_q20 L, upd (upd (upd (upd g (16 + 6 * b) (pq_q20 L)) (18 + 6 * b) (g 4)) (20 + 6 * b) (g 3)) (19 + 6 * b) (g (11 + r))) else (L, g)
def pq_ff (r : Nat) : Nat → Nat → Int32 → (Nat → Int32) → Int32 × (Nat → Int32)
  | _, 0, L, g => (L, g)
  | i, d + 1, L, g => pq_ff r (i + 1) d (pq_f1 r i L g).1 (pq_f1 r i L g).2
theorem pq_f1N {r b : Nat} {L : Int32} {g : Nat → Int32} (j : Nat) (h : j < 16 + 6 * b ∨ 21 + 6 * b ≤ j) : (pq_f1 r b L g).2 j = g j := by
  unfold pq_f1
  split
  · simp (disch := omega) only [pq_udN]
  · rfl
theorem pq_ffN {r : Nat} : ∀ (d i : Nat) (L : Int32) (g : Nat → Int32) (j : Nat), (j < 16 + 6 * i ∨ 15 + 6 * (i + d) ≤ j) → (pq_ff r i d L g).2 j = g j := by
  intro d
  induction d with
  | zero => intro i L g j _; rfl
  | succ d ih =>
    intro i L g j h
    rw [pq_ff, ih (i + 1) _ _ j (by omega), pq_f1N j (by omega)]
theorem pq_f1L {r b l : Nat} (hl : l ≤ 1000) {g : Nat → Int32} : ∃ l', l' ≤ l ∧ (pq_f1 r b (Int32.ofNat l) g).1 = Int32.ofNat l' := by
  unfold pq_f1 pq_q20
  split
  · by_cases h : 20 < l
    · rw [if_pos (show (20 : Int32) < Int32.ofNat l from (pq_lt (n := 20) (by decide) (by omega)).mpr h)]
      exact ⟨l - 20, by omega, by rw [Int32.ofNat_sub _ _ (by omega)]; rfl⟩
    · rw [if_neg (show ¬ (20 : Int32) < Int32.ofNat l from fun q => h ((pq_lt (n := 20) (by decide) (by omega)).mp q))]
      exact ⟨0, by omega, by rw [Int32.sub_self]; rfl⟩
  · exact ⟨l, by omega, rfl⟩
theorem pq_ffL {r : Nat} : ∀ (d i l : Nat) (g : Nat → Int32), l ≤ 1000 → ∃ l', l' ≤ l ∧ (pq_ff r i d (Int32.ofNat l) g).1 = Int32.ofNat l' := by
  intro d
  induction d with
  | zero => intro i l g hl; exact ⟨l, by omega, rfl⟩
  | succ d ih =>
    intro i l g hl
    obtain ⟨l1, h1, e1⟩ := pq_f1L (r := r) (b := i) hl (g := g)
    obtain ⟨l2, h2, e2⟩ := ih (i + 1) l1 (pq_f1 r i (Int32.ofNat l) g).2 (by omega)
    exact ⟨l2, by omega, by rw [pq_ff, e1, e2]⟩
theorem pq_ff0 {r : Nat} {L : Int32} (hL : L ≤ 0) : ∀ (d i : Nat) (g : Nat → Int32), pq_ff r i d L g = (L, g) := by
  intro d
  induction d with
  | zero => intro i g; rfl
  | succ d ih =>
    intro i g
    have e : pq_f1 r i L g = (L, g) := by unfold pq_f1; rw [if_neg (fun q => q.1 hL)]
    rw [pq_ff, e, ih]
/-- what is left is what 'caught' leaves -/
theorem pq_ffc {r : Nat} : ∀ (d i l : Nat) (g g0 : Nat → Int32), l ≤ 1000 → (∀ j, 15 + 6 * i ≤ j → g j = g0 j) → (pq_ff r i d (Int32.ofNat l) g).1 = pq_fd (pq_ca g0 (Int32.ofNat r)) i d (Int32.ofNat l) := by
  intro d
  induction d with
  | zero => intro i l g g0 _ _; rfl
  | succ d ih =>
    intro i l g g0 hl hg
    obtain ⟨l1, h1, e1⟩ := pq_f1L (r := r) (b := i) hl (g := g)
    rw [pq_ff, pq_fd]
    have e2 : pq_ca g0 (Int32.ofNat r) i (Int32.ofNat l) = (pq_f1 r i (Int32.ofNat l) g).1 := by
      unfold pq_ca pq_f1 pq_q20
      rw [← hg (15 + 6 * i) (by omega), ← hg (16 + 6 * i) (by omega)]
      by_cases hc : g (15 + 6 * i) = Int32.ofNat r ∧ g (16 + 6 * i) = 0
      · rw [if_pos hc]
        by_cases h0 : Int32.ofNat l ≤ 0
        · have : l = 0 := by have := (pq_le (m := 0) (by omega) (by decide)).mp h0; omega
          subst this
          rw [if_pos (by decide), if_neg (fun q => q.1 h0)]; rfl
        · rw [if_pos (show ¬ Int32.ofNat l ≤ 0 ∧ g (15 + 6 * i) = Int32.ofNat r ∧ g (16 + 6 * i) = 0 from ⟨h0, hc⟩)]
          by_cases h20 : 20 < l
          · rw [if_neg (show ¬ Int32.ofNat l ≤ 20 from fun q => by have := (pq_le (m := 20) (by omega) (by decide)).mp q; omega), if_pos (show (20 : Int32) < Int32.ofNat l from (pq_lt (n := 20) (by decide) (by omega)).mpr h20)]
          · rw [if_pos (show Int32.ofNat l ≤ 20 from (pq_le (m := 20) (by omega) (by decide)).mpr (by omega)), if_neg (show ¬ (20 : Int32) < Int32.ofNat l from fun q => h20 ((pq_lt (n := 20) (by decide) (by omega)).mp q)), Int32.sub_self]
      · rw [if_neg hc, if_neg (fun q => hc q.2)]
    rw [e2, e1]
    exact ih (i + 1) l1 _ g0 (by omega) (fun j hj => by rw [pq_f1N j (by omega)]; exact hg j (by omega))
section PQST
variable {rf : rc_F} {x c m : Nat} {n p N : Nat}
theorem pq_f1V {g : Nat → Int32} {r b l : Nat} (hV : pq_V g n p N) (hN : N ≤ 900) (hr : r < 4) (hb : b < n) (hl : l ≤ 1000) : pq_V (pq_f1 r b (Int32.ofNat l) g).2 n p N := by
  unfold pq_f1
  by_cases hc : ¬ Int32.ofNat l ≤ 0 ∧ g (15 + 6 * b) = Int32.ofNat r ∧ g (16 + 6 * b) = 0
  · rw [if_pos hc]
    have h8 := pq_vn hV
    have hl0 : l ≠ 0 := fun q => by subst q; exact hc.1 (by decide)
    have hq : ∃ q, 1 ≤ q ∧ q ≤ 20 ∧ pq_q20 (Int32.ofNat l) = Int32.ofNat q := by
      unfold pq_q20
      by_cases h : 20 < l
      · rw [if_pos (show (20 : Int32) < Int32.ofNat l from (pq_lt (n := 20) (by decide) (by omega)).mpr h)]
        exact ⟨20, by omega, by omega, rfl⟩
      · rw [if_neg (show ¬ (20 : Int32) < Int32.ofNat l from fun q => h ((pq_lt (n := 20) (by decide) (by omega)).mp q))]
        exact ⟨l, by omega, by omega, rfl⟩
    obtain ⟨q, q1, q20, eq⟩ := hq
    rw [eq]
    refine pq_Vk hV ⟨by simp (disch := omega) only [pq_udN]; exact pq_v0 hV, h8⟩ ⟨by simp (disch := omega) only [pq_udN]; exact pq_v1 hV, pq_vp hV⟩ (Or.inl (by simp (disch := omega) only [pq_udN])) (Or.inl (by simp (disch := omega) only [pq_udN])) (Or.inl (by simp (disch := omega) only [pq_udN])) (fun r hr => Or.inl (by simp (disch := omega) only [pq_udN])) (fun b' hb' => ?_) (fun j hj => Or.inl ⟨hj, by simp (disch := omega) only [pq_udN], by simp (disch := omega) only [pq_udN]⟩)
    by_cases e : b' = b
    · subst e
      refine Or.inr ?_
      simp (disch := omega) only [pq_udN, pq_udE]
      have z := pq_VB hV hb
      rw [(pq_ve hV hb hc.2.2).1]
      refine ⟨z.1, ⟨by decide, by rw [pq_ti (by omega)]; show (0 : Int) ≤ _; omega, by rw [pq_ti (by omega)]; omega⟩, ⟨by have := (pq_v4 hV).1; omega, (pq_v4 hV).2⟩, pq_vm hV hr, ⟨(pq_v3 hV).1, Int.le_refl _⟩, fun w => ?_, fun _ => (pq_v4 hV).1⟩
      have := (pq_eq (m := 0) (by omega) (by decide)).mp w
      omega
    · exact Or.inl ⟨hb', fun k hk => by simp (disch := omega) only [pq_udN]⟩
  · rw [if_neg hc]; exact hV
theorem pq_ffV {r : Nat} (hr : r < 4) (hN : N ≤ 900) : ∀ (d i l : Nat) (g : Nat → Int32), l ≤ 1000 → i + d ≤ n → pq_V g n p N → pq_V (pq_ff r i d (Int32.ofNat l) g).2 n p N := by
  intro d
  induction d with
  | zero => intro i l g _ _ hV; exact hV
  | succ d ih =>
    intro i l g hl hi hV
    obtain ⟨l1, h1, e1⟩ := pq_f1L (r := r) (b := i) hl (g := g)
    rw [pq_ff, e1]
    exact ih (i + 1) l1 _ (by omega) (by omega) (pq_f1V hV hN hr (by omega) hl)
/-- the class fills the barrels under a roof -/
theorem qo_f7 (hX : pq_X rf x) {S : Nat → Prop} {r : Nat} (hr : r < 4) (hn : n ≤ 8) (hS0 : S 0) (hS3 : S 3) (hS4 : S 4) (hSm : S (11 + r)) (hSb : ∀ b, b < n → ∀ k, k < 6 → S (15 + 6 * b + k)) (v2 : Int32) : ∀ (d fu i : Nat) (σ : rc_S) (g : Nat → Int32) (L : Int32), i + d = n → pq_S σ (x + 2) g S → g 0 = Int32.ofNat n → ∃ s, (∀ K : Int32 → Int32 → rc_S → Option (Int32 × rc_S), f_X7_fillUnder_5 rf (x + 1) (Int32.ofNat r) v2 K (fu + d + 1) L (Int32.ofNat i) σ = K (pq_ff r i d L g).1 (Int32.ofNat n) s) ∧ pq_S s (x + 2) (pq_ff r i d L g).2 S ∧ ∀ a, (a < x + 2 + 7 ∨ x + 2 + 15 ≤ a) → s a = σ a := by
  have hK := pq_xk hX
  intro d
  induction d with
  | zero =>
    intro fu i σ g L h hs h0
    have hi : i = n := by omega
    subst hi
    refine ⟨σ, fun K => ?_, hs, fun _ _ => rfl⟩
    have c0 : σ (x + 2) 2 = g 0 := hs 0 (by omega) hS0
    rw [f_X7_fillUnder_5, pq_w0 hX, c0, h0, if_pos (Int32.le_refl _)]; rfl
  | succ d ih =>
    intro fu i σ g L h hs h0
    have c0 : σ (x + 2) 2 = g 0 := hs 0 (by omega) hS0
    have c3 : σ (x + 2) 7 = g 3 := hs 3 (by omega) hS3
    have c4 : σ (x + 2) 5 = g 4 := hs 4 (by omega) hS4
    have cm : σ (x + 2 + 1) r = g (11 + r) := by
      have e := hs (11 + r) (by omega) hSm
      rw [(pq_adm hr).1, (pq_adm hr).2] at e; exact e
    have b0 : σ (x + 2 + 7 + i) 0 = g (15 + 6 * i) := by
      have e := hs (15 + 6 * i + 0) (by omega) (hSb i (by omega) 0 (by omega))
      rw [(pq_adb (by omega) (by omega)).1, (pq_adb (by omega) (by omega)).2, ← Nat.add_assoc] at e; exact e
    have b1 : σ (x + 2 + 7 + i) 1 = g (16 + 6 * i) := by
      have e := hs (15 + 6 * i + 1) (by omega) (hSb i (by omega) 1 (by omega))
      rw [(pq_adb (by omega) (by omega)).1, (pq_adb (by omega) (by omega)).2, ← Nat.add_assoc, show 15 + 6 * i + 1 = 16 + 6 * i by omega] at e; exact e
    have hni : ¬ Int32.ofNat n ≤ Int32.ofNat i := fun q => by have := (pq_le (by omega) (by omega)).mp q; omega
    by_cases hc : ¬ L ≤ 0 ∧ g (15 + 6 * i) = Int32.ofNat r ∧ g (16 + 6 * i) = 0
    · have e1 : pq_f1 r i L g = (L - pq_q20 L, upd (upd (upd (upd g (16 + 6 * i) (pq_q20 L)) (18 + 6 * i) (g 4)) (20 + 6 * i) (g 3)) (19 + 6 * i) (g (11 + r))) := by unfold pq_f1; rw [if_pos hc]
      have hs' : pq_S (rc_up (rc_up (rc_up (rc_up σ (x + 2 + 7 + i) 1 (pq_q20 L)) (x + 2 + 7 + i) 3 (g 4)) (x + 2 + 7 + i) 4 (g 3)) (x + 2 + 7 + i) 5 (g (11 + r))) (x + 2) (upd (upd (upd (upd g (16 + 6 * i) (pq_q20 L)) (18 + 6 * i) (g 4)) (20 + 6 * i) (g 3)) (19 + 6 * i) (g (11 + r))) S := fun j hj hS => pq_Sb4 (pq_Sb5 (pq_Sb3 (pq_Sb1 hs (by omega) _) (by omega) _) (by omega) _) (by omega) _ j hj (Or.inl (Or.inl (Or.inl (Or.inl hS))))
      obtain ⟨s, f1, f2, f3⟩ := ih fu (i + 1) _ _ (L - pq_q20 L) (by omega) hs' (by simp (disch := omega) only [pq_udN]; exact h0)
      rw [pq_ff, e1]
      refine ⟨s, fun K => ?_, f2, fun a ha => by rw [f3 a ha]; simp (disch := omega) only [pq_upN]⟩
      rw [show fu + (d + 1) + 1 = (fu + d + 1) + 1 from rfl, f_X7_fillUnder_5, pq_w0 hX, c0, h0, if_neg hni]
      simp (disch := omega) only [pq_in, pq_ck, pq_cl, hc.1, if_false, pq_k1 hK, pq_kb hK, b0, hc.2.1, if_true, q0_empty, b1, hc.2.2, pq_bd, pq_i10, not_true_eq_false, rc_lt, pq_upN, c4, c3, pq_k0 hK, cm, pq_upE, pq_udN, pq_udE, pq_s]
      exact f1 K
    · have e1 : pq_f1 r i L g = (L, g) := by unfold pq_f1; rw [if_neg hc]
      obtain ⟨s, f1, f2, f3⟩ := ih fu (i + 1) σ g L (by omega) hs h0
      rw [pq_ff, e1]
      refine ⟨s, fun K => ?_, f2, f3⟩
      rw [show fu + (d + 1) + 1 = (fu + d + 1) + 1 from rfl, f_X7_fillUnder_5, pq_w0 hX, c0, h0, if_neg hni]
      simp (disch := omega) only [pq_in, pq_ck, pq_cl, pq_k1 hK, pq_kb hK, b0, q0_empty, b1, pq_bd, pq_i10, rc_lt, pq_s]
      by_cases k1 : L ≤ 0
      · rw [if_pos k1]; exact f1 K
      · rw [if_neg k1]
        by_cases k2 : g (15 + 6 * i) = Int32.ofNat r
        · rw [if_pos k2, if_pos (fun q => hc ⟨k1, k2, q⟩)]; exact f1 K
        · rw [if_neg k2]; exact f1 K
def pq_mo (v s : Int32) : Int32 := if v - s / 3 < 0 then 0 else v - s / 3
def pq_ro (s : Int32) (n r : Nat) (g : Nat → Int32) : Nat → Int32 := upd (upd (pq_ff r 0 n ((Int32.ofNat r + 1) * s) g).2 7 (g 7 + (pq_ff r 0 n ((Int32.ofNat r + 1) * s) g).1)) (11 + r) (pq_mo (g (11 + r)) s)
def pq_rs (s : Int32) (n : Nat) : Nat → Nat → Int32 → (Nat → Int32) → Int32 × (Nat → Int32)
  | _, 0, a, g => (a, g)
  | i, d + 1, a, g => pq_rs s n (i + 1) d (a + ((Int32.ofNat i + 1) * s - (pq_ff i 0 n ((Int32.ofNat i + 1) * s) g).1)) (pq_ro s n i g)
theorem pq_roN {s : Int32} {r : Nat} {g : Nat → Int32} (j : Nat) (h7 : j ≠ 7) (hr : j ≠ 11 + r) (h : j < 16 ∨ 15 + 6 * n ≤ j) : pq_ro s n r g j = g j := by
  unfold pq_ro
  rw [pq_udN hr, pq_udN h7, pq_ffN n 0 _ g j (by omega)]
theorem pq_rsN {s : Int32} : ∀ (d i : Nat) (a : Int32) (g : Nat → Int32) (j : Nat), i + d = 4 → j ≠ 7 → (j < 11 ∨ 15 + 6 * n ≤ j) → (pq_rs s n i d a g).2 j = g j := by
  intro d
  induction d with
  | zero => intro i a g j _ _ _; rfl
  | succ d ih =>
    intro i a g j hi h7 h
    rw [pq_rs, ih (i + 1) _ _ j (by omega) h7 h, pq_roN j h7 (by omega) (by omega)]
theorem pq_Ww {s r : Nat} : (Int32.ofNat r + 1) * Int32.ofNat s = Int32.ofNat ((r + 1) * s) := by rw [pq_s, Int32.ofNat_mul]
theorem pq_Wb {s r : Nat} (hs : s ≤ 9) (hr : r < 4) : (r + 1) * s ≤ 36 := Nat.mul_le_mul (show r + 1 ≤ 4 by omega) hs
theorem pq_moN : ∀ v, v < 10 → ∀ s, s < 10 → 0 ≤ (pq_mo (Int32.ofNat v) (Int32.ofNat s)).toInt ∧ (pq_mo (Int32.ofNat v) (Int32.ofNat s)).toInt ≤ 9 := by decide
theorem pq_roV {g : Nat → Int32} {s r : Nat} (hV : pq_V g n p N) (hN : N ≤ 900) (hs : s ≤ 9) (hr : r < 4) : pq_V (pq_ro (Int32.ofNat s) n r g) n p N := by
  have h8 := pq_vn hV
  have hF : pq_V (pq_ff r 0 n ((Int32.ofNat r + 1) * Int32.ofNat s) g).2 n p N := by
    rw [pq_Ww]
    exact pq_ffV hr hN n 0 _ g (by have := pq_Wb hs hr; omega) (by omega) hV
  unfold pq_ro
  generalize (pq_ff r 0 n ((Int32.ofNat r + 1) * Int32.ofNat s) g).2 = G at hF
  refine pq_Vk hF ⟨by rw [pq_udN (by omega), pq_udN (by omega)]; exact pq_v0 hF, h8⟩ ⟨by rw [pq_udN (by omega), pq_udN (by omega)]; exact pq_v1 hF, pq_vp hV⟩ (Or.inl (by rw [pq_udN (by omega), pq_udN (by omega)])) (Or.inl (by rw [pq_udN (by omega), pq_udN (by omega)])) (Or.inl (by rw [pq_udN (by omega), pq_udN (by omega)])) (fun r' hr' => ?_) (fun b hb => Or.inl ⟨hb, fun k hk => by rw [pq_udN (by omega), pq_udN (by omega)]⟩) (fun j hj => Or.inl ⟨hj, by rw [pq_udN (by omega), pq_udN (by omega)], by rw [pq_udN (by omega), pq_udN (by omega)]⟩)
  by_cases e : r' = r
  · subst e
    refine Or.inr ?_
    rw [pq_udE]
    obtain ⟨v, hv, ev⟩ := pq_natL (n := 9) (pq_vm hV hr).1 (pq_vm hV hr).2 (by decide)
    rw [ev]
    exact pq_moN v (by omega) s (by omega)
  · exact Or.inl (by rw [pq_udN (by omega), pq_udN (by omega)])
theorem pq_rsV {s : Nat} (hN : N ≤ 900) (hs : s ≤ 9) : ∀ (d i : Nat) (a : Int32) (g : Nat → Int32), i + d = 4 → pq_V g n p N → pq_V (pq_rs (Int32.ofNat s) n i d a g).2 n p N := by
  intro d
  induction d with
  | zero => intro i a g _ hV; exact hV
  | succ d ih => intro i a g hi hV; rw [pq_rs]; exact ih (i + 1) _ _ (by omega) (pq_roV hV hN hs (by omega))
/-- how much came is a natural number -/
theorem pq_rsA {s : Nat} (hs : s ≤ 9) : ∀ (d i A : Nat) (g : Nat → Int32), i + d = 4 → ∃ A', A' ≤ A + 36 * d ∧ (pq_rs (Int32.ofNat s) n i d (Int32.ofNat A) g).1 = Int32.ofNat A' := by
  intro d
  induction d with
  | zero => intro i A g _; exact ⟨A, by omega, rfl⟩
  | succ d ih =>
    intro i A g hi
    have hb := pq_Wb hs (show i < 4 by omega)
    obtain ⟨l, hl, el⟩ := pq_ffL (r := i) n 0 ((i + 1) * s) g (by omega)
    obtain ⟨A', h1, e1⟩ := ih (i + 1) (A + ((i + 1) * s - l)) (pq_ro (Int32.ofNat s) n i g) (by omega)
    refine ⟨A', by omega, ?_⟩
    rw [pq_rs, pq_Ww, el, ← Int32.ofNat_sub _ _ hl, ← Int32.ofNat_add]
    exact e1
/-- what did not come is lost -/
theorem pq_rs7 {s : Int32} : ∀ (d i : Nat) (a B : Int32) (g : Nat → Int32), i + d = 4 → (pq_rs s n i d a g).2 7 + (pq_rs s n i d a g).1 + B = g 7 + a + pq_fd (fun r a => a + (Int32.ofNat r + 1) * s) i d B := by
  intro d
  induction d with
  | zero => intro i a B g _; rfl
  | succ d ih =>
    intro i a B g hi
    have e := ih (i + 1) (a + ((Int32.ofNat i + 1) * s - (pq_ff i 0 n ((Int32.ofNat i + 1) * s) g).1)) (B + (Int32.ofNat i + 1) * s) (pq_ro s n i g) (by omega)
    have e7 : pq_ro s n i g 7 = g 7 + (pq_ff i 0 n ((Int32.ofNat i + 1) * s) g).1 := by unfold pq_ro; rw [pq_udN (by omega), pq_udE]
    rw [e7] at e
    rw [pq_rs, pq_fd]
    generalize (pq_ff i 0 n ((Int32.ofNat i + 1) * s) g).1 = F at e ⊢
    generalize (Int32.ofNat i + 1) * s = W at e ⊢
    generalize (pq_rs s n (i + 1) d (a + (W - F)) (pq_ro s n i g)).2 7 = X at e ⊢
    generalize (pq_rs s n (i + 1) d (a + (W - F)) (pq_ro s n i g)).1 = Y at e ⊢
    generalize pq_fd (fun r a => a + (Int32.ofNat r + 1) * s) (i + 1) d (B + W) = Z at e ⊢
    grind
/-- the class, roof by roof -/
theorem qo_s7 (hX : pq_X rf x) {S : Nat → Prop} (hn : n ≤ 8) (hS7 : ¬ S 7) (hS0 : S 0) (hS3 : S 3) (hS4 : S 4) (hSm : ∀ r, r < 4 → S (11 + r)) (hSb : ∀ b, b < n → ∀ k, k < 6 → S (15 + 6 * b + k)) (s v2 : Int32) : ∀ (d fu i : Nat) (σ : rc_S) (g : Nat → Int32) (a : Int32), i + d = 4 → pq_S σ (x + 2) g S → g 0 = Int32.ofNat n → ∃ t, (∀ K : Int32 → Int32 → rc_S → Option (Int32 × rc_S), f_X7_letStormBy_34 rf (x + 1) s v2 K (fu + d + 1) a (Int32.ofNat i) σ = K (pq_rs s n i d a g).1 (Int32.ofNat 4) t) ∧ pq_S t (x + 2) (pq_rs s n i d a g).2 S ∧ ∀ q, q ≠ x + 2 + 1 → (q < x + 2 + 7 ∨ x + 2 + 15 ≤ q) → t q = σ q := by
  have hK := pq_xk hX
  intro d
  induction d with
  | zero =>
    intro fu i σ g a h hs h0
    have hi : i = 4 := by omega
    subst hi
    refine ⟨σ, fun K => ?_, hs, fun _ _ _ => rfl⟩
    rw [f_X7_letStormBy_34, if_pos (by decide)]; rfl
  | succ d ih =>
    intro fu i σ g a h hs h0
    have hni : (4 ≤ i) = False := by simp; omega
    obtain ⟨t1, f1, f2, f3⟩ := qo_f7 (n := n) hX (r := i) (by omega) hn hS0 hS3 hS4 (hSm i (by omega)) hSb ((Int32.ofNat i + 1) * s) n (99999 - n) 0 σ g ((Int32.ofNat i + 1) * s) (by omega) hs h0
    rw [← pq_fu n (by omega), show Int32.ofNat 0 = (0 : Int32) from rfl] at f1
    have m1 : t1 (x + 2 + 1) i = g (11 + i) := by
      have e := f2 (11 + i) (by omega) (hSm i (by omega))
      rw [(pq_adm (by omega)).1, (pq_adm (by omega)).2, pq_ffN n 0 _ g _ (by omega)] at e; exact e
    have s1 : pq_S (rc_up t1 (x + 2 + 1) i (pq_mo (g (11 + i)) s)) (x + 2) (pq_ro s n i g) S := by
      unfold pq_ro
      refine fun j hj hS => ?_
      have e := pq_Sm f2 (r := i) (by omega) (pq_mo (g (11 + i)) s) j hj (Or.inl hS)
      rw [e]
      have h7 : j ≠ 7 := fun q => hS7 (by rw [← q]; exact hS)
      simp only [upd, h7, if_false]
    obtain ⟨t, e1, e2, e3⟩ := ih fu (i + 1) _ _ (a + ((Int32.ofNat i + 1) * s - (pq_ff i 0 n ((Int32.ofNat i + 1) * s) g).1)) (by omega) s1 (by rw [pq_roN 0 (by omega) (by omega) (by omega)]; exact h0)
    rw [pq_rs]
    refine ⟨t, fun K => ?_, e2, fun q q1 q2 => by rw [e3 q q1 q2, pq_upN q1]; exact f3 q (by omega)⟩
    rw [show fu + (d + 1) + 1 = (fu + d + 1) + 1 from rfl, f_X7_letStormBy_34]
    simp (disch := omega) only [pq_le4, hni, if_false, f_X8_litresOnRoof, pq_bd, f_X7_fillUnder, f1, rc_lt, pq_in, pq_ck, pq_cl, pq_w0 hX, pq_k0 hK, m1]
    rw [show Int32.ofNat i + 1 = Int32.ofNat (i + 1) from pq_s] at e1 ⊢
    exact e1 K
end PQST

section PQCH
variable {rf : rc_F} {x m : Nat} {σ : rc_S} {Bd Ln : Nat}
/-- the class sets the cellar aside -/
theorem q8_asd (hX : pq_X rf x) {K F : Nat} (hK : K ≤ 8) (hF : F < 9) (h2 : σ (x + 57) 2 = Int32.ofNat K) (h1 : σ (x + 57) 1 = Int32.ofNat F) : f_X2_aside rf (x + 57) σ = some (x + 59 + 27 * ((F + K) % 9), σ) := by
  have hm : (F + K) % 9 < 9 := Nat.mod_lt _ (by decide)
  rw [f_X2_aside, h1, h2, ← Int32.ofNat_add, pq_fm9 (by omega), pq_bd, pq_in hm (by decide), pq_ck, pq_cl (by omega), pq_h0 hX, pq_hj hX hm]
theorem q8_set (hX : pq_X rf x) {K F : Nat} (hK : K ≤ 8) (hF : F < 9) (h2 : σ (x + 57) 2 = Int32.ofNat K) (h1 : σ (x + 57) 1 = Int32.ofNat F) : ∃ s, f_X2_setAside rf (x + 57) (x + 2) σ = some ((), s) ∧ (∀ a, (a < x + 59 + 27 * ((F + K) % 9) ∨ x + 59 + 27 * ((F + K) % 9) + 27 ≤ a) → s a = σ a) ∧ ∀ g n p N, pq_R σ (x + 2) g n p → pq_V g n p N → pq_R s (x + 59 + 27 * ((F + K) % 9)) g n p := by
  have hm : (F + K) % 9 < 9 := Nat.mod_lt _ (by decide)
  obtain ⟨s, e1, e2, e3⟩ := qc (rf := rf) (c1 := x + 59 + 27 * ((F + K) % 9)) (c2 := x + 2) (pq_xh hX hm) (pq_xk hX) (by omega) σ
  exact ⟨s, by rw [f_X2_setAside, q8_asd hX hK hF h2 h1, pq_bd, e1, pq_bd], e2, e3⟩
theorem q8_keep (hX : pq_X rf x) {K F : Nat} (hK : K ≤ 8) (hF : F < 9) (h2 : σ (x + 57) 2 = Int32.ofNat K) (h1 : σ (x + 57) 1 = Int32.ofNat F) : ∃ s, f_X2_keepAside rf (x + 57) σ = some ((), s) ∧ (∀ a, a ≠ x + 57 → s a = σ a) ∧ s (x + 57) 2 = Int32.ofNat (if K = 8 then 8 else K + 1) ∧ s (x + 57) 1 = Int32.ofNat (if K = 8 then (F + 1) % 9 else F) := by
  by_cases h8 : K = 8
  · subst h8
    refine ⟨rc_up σ (x + 57) 1 (Int32.ofNat ((F + 1) % 9)), ?_, fun a ha => pq_upN ha, by rw [pq_upE, pq_udN (by decide)]; exact h2, by rw [pq_upE, pq_udE]; rfl⟩
    rw [f_X2_keepAside, h2, if_pos (by decide), h1, pq_s, pq_fm9 (by omega), pq_bd, rc_lt]
  · refine ⟨rc_up σ (x + 57) 2 (Int32.ofNat (K + 1)), ?_, fun a ha => pq_upN ha, by rw [pq_upE, pq_udE, if_neg h8], by rw [pq_upE, pq_udN (by decide), if_neg h8]; exact h1⟩
    rw [f_X2_keepAside, h2, if_neg (show ¬ (8 : Int32) ≤ Int32.ofNat K from fun q => by have := (pq_le (n := 8) (by decide) (by omega)).mp q; omega), pq_s, rc_lt]
end PQCH

