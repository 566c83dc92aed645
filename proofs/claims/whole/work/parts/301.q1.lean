theorem pq_bd {α β : Type} {v : α} {σ : rc_S} {f : α → rc_S → Option β} : rc_bd (some (v, σ)) f = f v σ := rfl
theorem pq_ck {α : Type} {x : Option α} : rc_ck true x = x := rfl
theorem pq_cd {α : Type} {x : Option α} {P : Prop} {d : Decidable P} (h : P) : rc_ck (@decide P d) x = x := by rw [decide_eq_true h]; rfl
theorem pq_bx {α β : Type} {v : α} {σ : rc_S} {d : β} {f : α → rc_S → Option (Nat × β × rc_S)} : rc_bx (some (0, v, σ)) d f = f v σ := rfl
theorem pq_bxk {α β : Type} {k : Nat} {v : α} {σ : rc_S} {d : β} {f : α → rc_S → Option (Nat × β × rc_S)} (h : k ≠ 0) : rc_bx (some (k, v, σ)) d f = some (k, d, σ) := if_neg h
theorem pq_i10 {P : Prop} {d : Decidable P} : ((if P then (1 : Int32) else 0) = 0) = ¬ P := by by_cases h : P <;> simp [h]
theorem pq_i01 {P : Prop} {d : Decidable P} : ((if P then (0 : Int32) else 1) = 0) = P := by by_cases h : P <;> simp [h]
theorem pq_nb {P : Prop} {d : Decidable P} : vp_nar .boolean (if P then (1 : Int32) else 0) = (if P then (1 : Int32) else 0) := by by_cases h : P <;> simp [h] <;> decide
theorem pq_fu (n : Nat) (h : n ≤ 90000) : rc_fu = (99999 - n) + n + 1 := by unfold rc_fu; omega
theorem pq_upE {σ : rc_S} {a k : Nat} {x : Int32} : rc_up σ a k x a = upd (σ a) k x := by simp [rc_up]
theorem pq_upN {σ : rc_S} {a b k : Nat} {x : Int32} (h : b ≠ a) : rc_up σ a k x b = σ b := by simp [rc_up, h]
theorem pq_udE {f : Nat → Int32} {k : Nat} {x : Int32} : upd f k x k = x := by simp [upd]
theorem pq_udN {f : Nat → Int32} {j k : Nat} {x : Int32} (h : j ≠ k) : upd f k x j = f j := by simp [upd, h]
section PQV
variable {g : Nat → Int32} {n p N b j r : Nat}
theorem pq_v0 (h : pq_V g n p N) : g 0 = Int32.ofNat n := h.1.1
theorem pq_vn (h : pq_V g n p N) : n ≤ 8 := h.1.2
theorem pq_v1 (h : pq_V g n p N) : g 1 = Int32.ofNat p := h.2.1.1
theorem pq_vp (h : pq_V g n p N) : p ≤ 4 := h.2.1.2
theorem pq_v2 (h : pq_V g n p N) : 0 ≤ (g 2).toInt ∧ (g 2).toInt ≤ 9 := h.2.2.1
theorem pq_v3 (h : pq_V g n p N) : 0 ≤ (g 3).toInt ∧ (g 3).toInt ≤ N := h.2.2.2.1
theorem pq_v4 (h : pq_V g n p N) : 0 ≤ (g 4).toInt ∧ (g 4).toInt ≤ N := h.2.2.2.2.1
theorem pq_vm (h : pq_V g n p N) (hr : r < 4) : 0 ≤ (g (11 + r)).toInt ∧ (g (11 + r)).toInt ≤ 9 := h.2.2.2.2.2.1 r hr
theorem pq_vr (h : pq_V g n p N) (hb : b < n) : 0 ≤ (g (15 + 6 * b)).toInt ∧ (g (15 + 6 * b)).toInt ≤ 3 := (h.2.2.2.2.2.2.1 b hb).1
theorem pq_vh (h : pq_V g n p N) (hb : b < n) : 0 ≤ (g (17 + 6 * b)).toInt ∧ (g (17 + 6 * b)).toInt ≤ (g (16 + 6 * b)).toInt ∧ (g (16 + 6 * b)).toInt ≤ 20 := (h.2.2.2.2.2.2.1 b hb).2.1
theorem pq_vby (h : pq_V g n p N) (hb : b < n) : -1 ≤ (g (18 + 6 * b)).toInt ∧ (g (18 + 6 * b)).toInt ≤ N := (h.2.2.2.2.2.2.1 b hb).2.2.1
theorem pq_vt (h : pq_V g n p N) (hb : b < n) : 0 ≤ (g (19 + 6 * b)).toInt ∧ (g (19 + 6 * b)).toInt ≤ 9 := (h.2.2.2.2.2.2.1 b hb).2.2.2.1
theorem pq_vs (h : pq_V g n p N) (hb : b < n) : 0 ≤ (g (20 + 6 * b)).toInt ∧ (g (20 + 6 * b)).toInt ≤ (g 3).toInt := (h.2.2.2.2.2.2.1 b hb).2.2.2.2.1
theorem pq_ve (h : pq_V g n p N) (hb : b < n) (h0 : g (16 + 6 * b) = 0) : g (17 + 6 * b) = 0 ∧ g (18 + 6 * b) = -1 ∧ g (19 + 6 * b) = 0 ∧ g (20 + 6 * b) = 0 := (h.2.2.2.2.2.2.1 b hb).2.2.2.2.2.1 h0
theorem pq_vb0 (h : pq_V g n p N) (hb : b < n) (h0 : g (16 + 6 * b) ≠ 0) : 0 ≤ (g (18 + 6 * b)).toInt := (h.2.2.2.2.2.2.1 b hb).2.2.2.2.2.2 h0
theorem pq_vpp (h : pq_V g n p N) (hj : j < p) : 0 ≤ (g (63 + 2 * j)).toInt ∧ (g (63 + 2 * j)).toInt ≤ 9 := (h.2.2.2.2.2.2.2 j hj).1
theorem pq_vps (h : pq_V g n p N) (hj : j < p) : g (64 + 2 * j) = 0 ∨ g (64 + 2 * j) = 1 := (h.2.2.2.2.2.2.2 j hj).2
end PQV
/-! what both sides compute -/
def pq_part (h l : Int32) : Int32 := if l = 0 then 0 else 100 * h / l
def pq_age (l y s : Int32) : Int32 := if l = 0 then 0 else y - s
def pq_tst (t a : Int32) : Int32 := if t + a / 2 ≤ 9 then t + a / 2 else 9
def pq_nt (h l t s y k : Int32) : Int32 := if l = 0 then 0 else pq_tst t ((y - s) + k) * (100 - pq_part h l) / 100
def pq_P (g : Nat → Int32) (b : Nat) : Int32 := pq_part (g (17 + 6 * b)) (g (16 + 6 * b))
def pq_A (g : Nat → Int32) (b : Nat) : Int32 := pq_age (g (16 + 6 * b)) (g 3) (g (20 + 6 * b))
def pq_N (g : Nat → Int32) (b : Nat) (k : Int32) : Int32 := pq_nt (g (17 + 6 * b)) (g (16 + 6 * b)) (g (19 + 6 * b)) (g (20 + 6 * b)) (g 3) k
/-- does the sommelier j notice the part v -/
def pq_ntc (g : Nat → Int32) (j : Nat) (v : Int32) : Prop := ¬ v ≤ 0 ∧ ¬ v ≤ 50 - 5 * (g (63 + 2 * j) + 2 * g (64 + 2 * j))
def pq_ms (g : Nat → Int32) (me : Int32) (b : Nat) : Int32 := if me = 0 then g (16 + 6 * b) else if me = 1 then pq_N g b 0 else if me = 2 then pq_A g b else pq_P g b
def pq_ns (g : Nat → Int32) (p : Nat) (v : Int32) : Int32 := pq_fd (fun j a => if ¬ v ≤ 0 ∧ ¬ v ≤ 50 - 5 * (g (63 + 2 * j) + 2 * g (64 + 2 * j)) then a ||| ((1 : Int32) <<< ((Int32.ofNat j) &&& 31)) else a) 0 p 0

section PQ9
variable {rf : rc_F} {σ : rc_S} {m : Nat} {g : Nat → Int32} {n p N b j : Nat}
theorem q9_ix {b w : Nat} : (15 : Int32) + 6 * Int32.ofNat b + Int32.ofNat w = Int32.ofNat (15 + 6 * b + w) := by
  rw [Int32.ofNat_add, Int32.ofNat_add, Int32.ofNat_mul]; rfl
theorem q9_jx {b : Nat} : (63 : Int32) + 2 * Int32.ofNat b = Int32.ofNat (63 + 2 * b) := by
  rw [Int32.ofNat_add, Int32.ofNat_mul]; rfl
theorem q9_jy {b : Nat} : (63 : Int32) + 2 * Int32.ofNat b + 1 = Int32.ofNat (64 + 2 * b) := by
  rw [show 64 + 2 * b = 63 + 2 * b + 1 from by omega, Int32.ofNat_add, Int32.ofNat_add, Int32.ofNat_mul]; rfl
theorem q9_ofw (hM : pq_M rf m) (hg : σ (m + 1) = g) (hb : b < 8) (w : Nat) (hw : w < 6) : f_X9_of rf m (Int32.ofNat b) (Int32.ofNat w) σ = some (g (15 + 6 * b + w), σ) := by
  rw [f_X9_of, q9_ix, pq_in (by omega) (by omega), pq_ck, pq_cl (by omega), pq_m1 hM, hg]
theorem q9_stw (hM : pq_M rf m) (hb : b < 8) (w : Nat) (hw : w < 6) {v : Int32} : f_X9_sets rf m (Int32.ofNat b) (Int32.ofNat w) v σ = some ((), rc_up σ (m + 1) (15 + 6 * b + w) v) := by
  rw [f_X9_sets, q9_ix, pq_in (by omega) (by omega), pq_ck, pq_cl (by omega), pq_m1 hM, rc_lt]
theorem q9_of0 (hM : pq_M rf m) (hg : σ (m + 1) = g) (hb : b < 8) : f_X9_of rf m (Int32.ofNat b) 0 σ = some (g (15 + 6 * b), σ) := by
  rw [show 15 + 6 * b = 15 + 6 * b + 0 from by omega]; exact q9_ofw hM hg hb 0 (by omega)
theorem q9_st0 (hM : pq_M rf m) (hb : b < 8) {v : Int32} : f_X9_sets rf m (Int32.ofNat b) 0 v σ = some ((), rc_up σ (m + 1) (15 + 6 * b) v) := by
  rw [show 15 + 6 * b = 15 + 6 * b + 0 from by omega]; exact q9_stw hM hb 0 (by omega)
theorem q9_of1 (hM : pq_M rf m) (hg : σ (m + 1) = g) (hb : b < 8) : f_X9_of rf m (Int32.ofNat b) 1 σ = some (g (16 + 6 * b), σ) := by
  rw [show 16 + 6 * b = 15 + 6 * b + 1 from by omega]; exact q9_ofw hM hg hb 1 (by omega)
theorem q9_st1 (hM : pq_M rf m) (hb : b < 8) {v : Int32} : f_X9_sets rf m (Int32.ofNat b) 1 v σ = some ((), rc_up σ (m + 1) (16 + 6 * b) v) := by
  rw [show 16 + 6 * b = 15 + 6 * b + 1 from by omega]; exact q9_stw hM hb 1 (by omega)
theorem q9_of2 (hM : pq_M rf m) (hg : σ (m + 1) = g) (hb : b < 8) : f_X9_of rf m (Int32.ofNat b) 2 σ = some (g (17 + 6 * b), σ) := by
  rw [show 17 + 6 * b = 15 + 6 * b + 2 from by omega]; exact q9_ofw hM hg hb 2 (by omega)
theorem q9_st2 (hM : pq_M rf m) (hb : b < 8) {v : Int32} : f_X9_sets rf m (Int32.ofNat b) 2 v σ = some ((), rc_up σ (m + 1) (17 + 6 * b) v) := by
  rw [show 17 + 6 * b = 15 + 6 * b + 2 from by omega]; exact q9_stw hM hb 2 (by omega)
theorem q9_of3 (hM : pq_M rf m) (hg : σ (m + 1) = g) (hb : b < 8) : f_X9_of rf m (Int32.ofNat b) 3 σ = some (g (18 + 6 * b), σ) := by
  rw [show 18 + 6 * b = 15 + 6 * b + 3 from by omega]; exact q9_ofw hM hg hb 3 (by omega)
theorem q9_st3 (hM : pq_M rf m) (hb : b < 8) {v : Int32} : f_X9_sets rf m (Int32.ofNat b) 3 v σ = some ((), rc_up σ (m + 1) (18 + 6 * b) v) := by
  rw [show 18 + 6 * b = 15 + 6 * b + 3 from by omega]; exact q9_stw hM hb 3 (by omega)
theorem q9_of4 (hM : pq_M rf m) (hg : σ (m + 1) = g) (hb : b < 8) : f_X9_of rf m (Int32.ofNat b) 4 σ = some (g (19 + 6 * b), σ) := by
  rw [show 19 + 6 * b = 15 + 6 * b + 4 from by omega]; exact q9_ofw hM hg hb 4 (by omega)
theorem q9_st4 (hM : pq_M rf m) (hb : b < 8) {v : Int32} : f_X9_sets rf m (Int32.ofNat b) 4 v σ = some ((), rc_up σ (m + 1) (19 + 6 * b) v) := by
  rw [show 19 + 6 * b = 15 + 6 * b + 4 from by omega]; exact q9_stw hM hb 4 (by omega)
theorem q9_of5 (hM : pq_M rf m) (hg : σ (m + 1) = g) (hb : b < 8) : f_X9_of rf m (Int32.ofNat b) 5 σ = some (g (20 + 6 * b), σ) := by
  rw [show 20 + 6 * b = 15 + 6 * b + 5 from by omega]; exact q9_ofw hM hg hb 5 (by omega)
theorem q9_st5 (hM : pq_M rf m) (hb : b < 8) {v : Int32} : f_X9_sets rf m (Int32.ofNat b) 5 v σ = some ((), rc_up σ (m + 1) (20 + 6 * b) v) := by
  rw [show 20 + 6 * b = 15 + 6 * b + 5 from by omega]; exact q9_stw hM hb 5 (by omega)
theorem q9_in {u a b : Int32} : f_X9_in rf u a b σ = some (if ¬ u < a ∧ ¬ b < u then 1 else 0, σ) := by
  unfold f_X9_in
  by_cases h1 : u < a <;> by_cases h2 : b < u <;> simp [h1, h2]
theorem q9_isB (hM : pq_M rf m) (hg : σ (m + 1) = g) (hV : pq_V g n p N) {u : Int32} : f_X9_isBarrel rf m u σ = some (if ¬ u < 0 ∧ u < g 0 then 1 else 0, σ) := by
  have e : (g 0 - 1 < u) ↔ ¬ u < g 0 := by
    rw [pq_g1 _ _ (by rw [pq_v0 hV]; exact Int32.zero_le_ofNat_of_lt (by have := pq_vn hV; omega)), Int32.not_lt]
  rw [f_X9_isBarrel, q9_in, pq_bd, pq_m1 hM, hg]
  simp only [e, Decidable.not_not]
  rw [pq_cd pq_nb]
theorem q9_isS (hM : pq_M rf m) (hg : σ (m + 1) = g) (hV : pq_V g n p N) {u : Int32} : f_X9_isSommelier rf m u σ = some (if ¬ u < 0 ∧ u < g 1 then 1 else 0, σ) := by
  have e : (g 1 - 1 < u) ↔ ¬ u < g 1 := by
    rw [pq_g1 _ _ (by rw [pq_v1 hV]; exact Int32.zero_le_ofNat_of_lt (by have := pq_vp hV; omega)), Int32.not_lt]
  rw [f_X9_isSommelier, q9_in, pq_bd, pq_m1 hM, hg]
  simp only [e, Decidable.not_not]
  rw [pq_cd pq_nb]
theorem q9_partOf {h l : Int32} : f_X9_partOf rf h l σ = some (pq_part h l, σ) := by
  unfold f_X9_partOf pq_part
  by_cases h1 : l = 0
  · simp [h1]
  · simp only [if_neg h1, pq_cd h1]
theorem q9_part (hM : pq_M rf m) (hg : σ (m + 1) = g) (hb : b < 8) : f_X9_part rf m (Int32.ofNat b) σ = some (pq_P g b, σ) := by
  simp only [f_X9_part, q9_of2 hM hg hb, q9_of1 hM hg hb, pq_bd, q9_partOf, pq_P]
theorem q9_age (hM : pq_M rf m) (hg : σ (m + 1) = g) (hb : b < 8) : f_X9_ageOf rf m (Int32.ofNat b) σ = some (pq_A g b, σ) := by
  simp only [f_X9_ageOf, q9_of1 hM hg hb, q9_of5 hM hg hb, pq_bd, pq_m1 hM, hg, pq_A, pq_age]
  by_cases h1 : g (16 + 6 * b) = 0 <;> simp only [h1, if_true, if_false]
theorem q9_note (hM : pq_M rf m) (hg : σ (m + 1) = g) (hb : b < 8) {k : Int32} : f_X9_noteOf rf m (Int32.ofNat b) k σ = some (pq_N g b k, σ) := by
  simp only [f_X9_noteOf, q9_of1 hM hg hb, q9_of4 hM hg hb, pq_bd, q9_age hM hg hb, q9_part hM hg hb, rc_lt, pq_A, pq_age, pq_N, pq_nt, pq_tst, pq_P]
  by_cases h1 : g (16 + 6 * b) = 0
  · simp only [h1, if_true]
  · simp only [h1, if_false]
    split <;> rfl
theorem q9_notes (hM : pq_M rf m) (hg : σ (m + 1) = g) (hj : j < 4) {v : Int32} : f_X9_notes rf m (Int32.ofNat j) v σ = some (if ¬ v ≤ 0 ∧ ¬ v ≤ 50 - 5 * (g (63 + 2 * j) + 2 * g (64 + 2 * j)) then 1 else 0, σ) := by
  rw [f_X9_notes, q9_jy, q9_jx, pq_in (by omega) (by omega), pq_in (by omega) (by omega), pq_ck, pq_ck, pq_cl (by omega), pq_cl (by omega), pq_m1 hM, hg]
  simp only [rc_lt]
  by_cases h1 : v ≤ 0
  · simp [h1]
  · by_cases h2 : v ≤ 50 - 5 * (g (63 + 2 * j) + 2 * g (64 + 2 * j)) <;> simp [h1, h2]

theorem q_9_allLitres_4 (hM : pq_M rf m) (hg : σ (m + 1) = g) (hV : pq_V g n p N) (K : Int32 → Int32 → rc_S → Option (Int32 × rc_S)) : ∀ (d fu i : Nat) (acc : Int32), i + d = n → f_X9_allLitres_4 rf m K (fu + d + 1) acc (Int32.ofNat i) σ = K (pq_fd (fun b a => a + g (16 + 6 * b)) i d acc) (Int32.ofNat n) σ := by
  have h8 := pq_vn hV
  intro d
  induction d with
  | zero =>
    intro fu i acc h
    have hi : i = n := by omega
    subst hi
    rw [f_X9_allLitres_4]
    simp (disch := omega) only [pq_m1 hM, hg, pq_v0 hV, pq_le, Nat.le_refl, if_true, pq_fd]
  | succ d ih =>
    intro fu i acc h
    have hni : (n ≤ i) = False := by simp; omega
    rw [show fu + (d + 1) + 1 = (fu + d + 1) + 1 from rfl, f_X9_allLitres_4]
    simp (disch := omega) only [pq_m1 hM, hg, pq_v0 hV, pq_le, hni, if_false, pq_in, pq_cl, pq_ck, pq_bd, rc_lt, pq_s, pq_fd, q9_of1 hM hg]
    rw [ih fu (i + 1) _ (by omega)]
theorem q_9_allLitres (hM : pq_M rf m) (hg : σ (m + 1) = g) (hV : pq_V g n p N) : f_X9_allLitres rf m σ = some (pq_fd (fun b a => a + g (16 + 6 * b)) 0 n 0, σ) := by
  have hx := pq_vn hV
  rw [f_X9_allLitres, pq_fu n (by omega)]
  exact q_9_allLitres_4 hM hg hV _ n (99999 - n) 0 0 (by omega)
theorem q_9_vintage_38 (hM : pq_M rf m) (hg : σ (m + 1) = g) (hV : pq_V g n p N) (v1 : Int32) (K : Int32 → Int32 → rc_S → Option (Int32 × rc_S)) : ∀ (d fu i : Nat) (acc : Int32), i + d = n → f_X9_vintage_38 rf m v1 K (fu + d + 1) acc (Int32.ofNat i) σ = K (pq_fd (fun b a => if g (18 + 6 * b) = v1 then a + g (16 + 6 * b) else a) i d acc) (Int32.ofNat n) σ := by
  have h8 := pq_vn hV
  intro d
  induction d with
  | zero =>
    intro fu i acc h
    have hi : i = n := by omega
    subst hi
    rw [f_X9_vintage_38]
    simp (disch := omega) only [pq_m1 hM, hg, pq_v0 hV, pq_le, Nat.le_refl, if_true, pq_fd]
  | succ d ih =>
    intro fu i acc h
    have hni : (n ≤ i) = False := by simp; omega
    rw [show fu + (d + 1) + 1 = (fu + d + 1) + 1 from rfl, f_X9_vintage_38]
    simp (disch := omega) only [pq_m1 hM, hg, pq_v0 hV, pq_le, hni, if_false, pq_in, pq_cl, pq_ck, pq_bd, rc_lt, pq_s, pq_fd, q9_of1 hM hg, q9_of3 hM hg]
    by_cases hc : g (18 + 6 * i) = v1
    · simp only [hc, if_true, if_false, not_true, not_false_eq_true, ↓reduceIte, Int32.add_zero]
      rw [ih fu (i + 1) _ (by omega)]
    · simp only [hc, if_true, if_false, not_true, not_false_eq_true, ↓reduceIte, Int32.add_zero]
      rw [ih fu (i + 1) _ (by omega)]
theorem q_9_noses_4 (hM : pq_M rf m) (hg : σ (m + 1) = g) (hV : pq_V g n p N) (v : Int32) (K : Int32 → Int32 → rc_S → Option (Int32 × rc_S)) : ∀ (d fu i : Nat) (acc : Int32), i + d = p → f_X9_noses_4 rf m v K (fu + d + 1) acc (Int32.ofNat i) σ = K (pq_fd (fun j a => if ¬ v ≤ 0 ∧ ¬ v ≤ 50 - 5 * (g (63 + 2 * j) + 2 * g (64 + 2 * j)) then a ||| ((1 : Int32) <<< ((Int32.ofNat j) &&& 31)) else a) i d acc) (Int32.ofNat p) σ := by
  have h8 := pq_vp hV
  intro d
  induction d with
  | zero =>
    intro fu i acc h
    have hi : i = p := by omega
    subst hi
    rw [f_X9_noses_4]
    simp (disch := omega) only [pq_m1 hM, hg, pq_v1 hV, pq_le, Nat.le_refl, if_true, pq_fd]
  | succ d ih =>
    intro fu i acc h
    have hni : (p ≤ i) = False := by simp; omega
    rw [show fu + (d + 1) + 1 = (fu + d + 1) + 1 from rfl, f_X9_noses_4]
    simp (disch := omega) only [pq_m1 hM, hg, pq_v1 hV, pq_le, hni, if_false, pq_in, pq_cl, pq_ck, pq_bd, rc_lt, pq_s, pq_fd, q9_notes hM hg, pq_i10]
    by_cases hc : ¬ v ≤ 0 ∧ ¬ v ≤ 50 - 5 * (g (63 + 2 * i) + 2 * g (64 + 2 * i))
    · rw [if_neg (fun z => z hc), if_pos hc, ih fu (i + 1) _ (by omega)]
    · rw [if_pos hc, if_neg hc, Int32.or_zero, ih fu (i + 1) _ (by omega)]
theorem q_9_noses (hM : pq_M rf m) (hg : σ (m + 1) = g) (hV : pq_V g n p N) {v : Int32} : f_X9_noses rf m v σ = some (pq_ns g p v, σ) := by
  have hx := pq_vp hV
  rw [f_X9_noses, pq_fu p (by omega)]
  exact q_9_noses_4 hM hg hV v _ p (99999 - p) 0 0 (by omega)
theorem q_9_under_5_1 (hM : pq_M rf m) (hg : σ (m + 1) = g) (hV : pq_V g n p N) (r : Int32) (K : Int32 → Int32 → rc_S → Option (Int32 × rc_S)) : ∀ (d fu i : Nat) (acc : Int32), i + d = n → f_X9_under_5 rf m r 1 K (fu + d + 1) acc (Int32.ofNat i) σ = K (pq_fd (fun b a => if g (15 + 6 * b) = r then a + 1 else a) i d acc) (Int32.ofNat n) σ := by
  have h8 := pq_vn hV
  intro d
  induction d with
  | zero =>
    intro fu i acc h
    have hi : i = n := by omega
    subst hi
    rw [f_X9_under_5]
    simp (disch := omega) only [pq_m1 hM, hg, pq_v0 hV, pq_le, Nat.le_refl, if_true, pq_fd]
  | succ d ih =>
    intro fu i acc h
    have hni : (n ≤ i) = False := by simp; omega
    rw [show fu + (d + 1) + 1 = (fu + d + 1) + 1 from rfl, f_X9_under_5]
    simp (disch := omega) only [pq_m1 hM, hg, pq_v0 hV, pq_le, hni, if_false, pq_in, pq_cl, pq_ck, pq_bd, rc_lt, pq_s, pq_fd, q9_of0 hM hg, if_true]
    by_cases hc : g (15 + 6 * i) = r
    · simp only [hc, if_true, true_and]
      rw [ih fu (i + 1) _ (by omega)]
    · simp only [hc, if_false, false_and]
      rw [ih fu (i + 1) _ (by omega)]
theorem q_9_under_1 (hM : pq_M rf m) (hg : σ (m + 1) = g) (hV : pq_V g n p N) {r : Int32} : f_X9_under rf m r 1 σ = some (pq_fd (fun b a => if g (15 + 6 * b) = r then a + 1 else a) 0 n 0, σ) := by
  have hx := pq_vn hV
  rw [f_X9_under, pq_fu n (by omega)]
  exact q_9_under_5_1 hM hg hV r _ n (99999 - n) 0 0 (by omega)
theorem q_9_under_5_2 (hM : pq_M rf m) (hg : σ (m + 1) = g) (hV : pq_V g n p N) (r : Int32) (K : Int32 → Int32 → rc_S → Option (Int32 × rc_S)) : ∀ (d fu i : Nat) (acc : Int32), i + d = n → f_X9_under_5 rf m r 2 K (fu + d + 1) acc (Int32.ofNat i) σ = K (pq_fd (fun b a => if g (15 + 6 * b) = r ∧ g (16 + 6 * b) = 0 then a + 1 else a) i d acc) (Int32.ofNat n) σ := by
  have h8 := pq_vn hV
  intro d
  induction d with
  | zero =>
    intro fu i acc h
    have hi : i = n := by omega
    subst hi
    rw [f_X9_under_5]
    simp (disch := omega) only [pq_m1 hM, hg, pq_v0 hV, pq_le, Nat.le_refl, if_true, pq_fd]
  | succ d ih =>
    intro fu i acc h
    have hni : (n ≤ i) = False := by simp; omega
    rw [show fu + (d + 1) + 1 = (fu + d + 1) + 1 from rfl, f_X9_under_5]
    simp (disch := omega) only [pq_m1 hM, hg, pq_v0 hV, pq_le, hni, if_false, pq_in, pq_cl, pq_ck, pq_bd, rc_lt, pq_s, pq_fd, q9_of0 hM hg, q9_of1 hM hg, show ((2 : Int32) = 1) = False from by decide, if_false, if_true]
    by_cases hc : g (15 + 6 * i) = r
    · simp only [hc, if_true, true_and]
      by_cases h2 : g (16 + 6 * i) = 0
      · simp only [h2, if_true]
        rw [ih fu (i + 1) _ (by omega)]
      · simp only [h2, if_false, Int32.add_zero]
        rw [ih fu (i + 1) _ (by omega)]
    · simp only [hc, if_false, false_and]
      rw [ih fu (i + 1) _ (by omega)]
theorem q_9_under_2 (hM : pq_M rf m) (hg : σ (m + 1) = g) (hV : pq_V g n p N) {r : Int32} : f_X9_under rf m r 2 σ = some (pq_fd (fun b a => if g (15 + 6 * b) = r ∧ g (16 + 6 * b) = 0 then a + 1 else a) 0 n 0, σ) := by
  have hx := pq_vn hV
  rw [f_X9_under, pq_fu n (by omega)]
  exact q_9_under_5_2 hM hg hV r _ n (99999 - n) 0 0 (by omega)
theorem q_9_under_5_3 (hM : pq_M rf m) (hg : σ (m + 1) = g) (hV : pq_V g n p N) (r : Int32) (K : Int32 → Int32 → rc_S → Option (Int32 × rc_S)) : ∀ (d fu i : Nat) (acc : Int32), i + d = n → f_X9_under_5 rf m r 3 K (fu + d + 1) acc (Int32.ofNat i) σ = K (pq_fd (fun b a => if g (15 + 6 * b) = r then a + g (16 + 6 * b) else a) i d acc) (Int32.ofNat n) σ := by
  have h8 := pq_vn hV
  intro d
  induction d with
  | zero =>
    intro fu i acc h
    have hi : i = n := by omega
    subst hi
    rw [f_X9_under_5]
    simp (disch := omega) only [pq_m1 hM, hg, pq_v0 hV, pq_le, Nat.le_refl, if_true, pq_fd]
  | succ d ih =>
    intro fu i acc h
    have hni : (n ≤ i) = False := by simp; omega
    rw [show fu + (d + 1) + 1 = (fu + d + 1) + 1 from rfl, f_X9_under_5]
    simp (disch := omega) only [pq_m1 hM, hg, pq_v0 hV, pq_le, hni, if_false, pq_in, pq_cl, pq_ck, pq_bd, rc_lt, pq_s, pq_fd, q9_of0 hM hg, q9_of1 hM hg, show ((3 : Int32) = 1) = False from by decide, show ((3 : Int32) = 2) = False from by decide, if_false]
    by_cases hc : g (15 + 6 * i) = r
    · simp only [hc, if_true, true_and]
      rw [ih fu (i + 1) _ (by omega)]
    · simp only [hc, if_false, false_and]
      rw [ih fu (i + 1) _ (by omega)]
theorem q_9_under_3 (hM : pq_M rf m) (hg : σ (m + 1) = g) (hV : pq_V g n p N) {r : Int32} : f_X9_under rf m r 3 σ = some (pq_fd (fun b a => if g (15 + 6 * b) = r then a + g (16 + 6 * b) else a) 0 n 0, σ) := by
  have hx := pq_vn hV
  rw [f_X9_under, pq_fu n (by omega)]
  exact q_9_under_5_3 hM hg hV r _ n (99999 - n) 0 0 (by omega)
end PQ9
