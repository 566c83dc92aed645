/-! THE PURE PART: numbers -/
theorem pq_cl {n : Nat} (h : n < 2147483648) : (Int32.ofNat n).toNatClampNeg = n := Int32.toNatClampNeg_ofNat_of_lt h
theorem pq_ti {n : Nat} (h : n < 2147483648) : (Int32.ofNat n).toInt = n := Int32.toInt_ofNat_of_lt h
theorem pq_le {n m : Nat} (hn : n < 2147483648) (hm : m < 2147483648) : (Int32.ofNat n ≤ Int32.ofNat m) ↔ n ≤ m := Int32.ofNat_le_iff_le hn hm
theorem pq_lt {n m : Nat} (hn : n < 2147483648) (hm : m < 2147483648) : (Int32.ofNat n < Int32.ofNat m) ↔ n < m := Int32.ofNat_lt_iff_lt hn hm
theorem pq_eq {n m : Nat} (hn : n < 2147483648) (hm : m < 2147483648) : (Int32.ofNat n = Int32.ofNat m) ↔ n = m := ⟨fun h => by have := congrArg Int32.toInt h; rw [pq_ti hn, pq_ti hm] at this; omega, fun h => by rw [h]⟩
theorem pq_s {n : Nat} : Int32.ofNat n + 1 = Int32.ofNat (n + 1) := (Int32.ofNat_add n 1).symm
theorem pq_in {n m : Nat} (h : n < m) (hm : m < 2147483648) : rc_in (Int32.ofNat n) m = true := rc_in_iff.mpr (by
  unfold vp_in
  rw [pq_cl (by omega), Int32.lt_iff_toInt_lt, pq_ti (by omega)]
  simp
  omega)
theorem pq_nin {n m : Nat} (h : m ≤ n) (hm : n < 2147483648) : rc_in (Int32.ofNat n) m = false := by
  unfold rc_in
  rw [pq_cl hm]
  simp [h]
/-- a number between 0 and the count is an index -/
theorem pq_nat {u : Int32} {n : Nat} (h0 : ¬ u < 0) (h1 : u < Int32.ofNat n) (hn : n < 2147483648) : ∃ b, b < n ∧ u = Int32.ofNat b := by
  rw [Int32.lt_iff_toInt_lt] at h0 h1
  rw [pq_ti hn] at h1
  rw [Int32.toInt_zero] at h0
  refine ⟨u.toInt.toNat, by omega, ?_⟩
  rw [← Int32.toInt_inj, pq_ti (by omega)]
  omega
theorem pq_natL {u : Int32} {n : Nat} (h0 : 0 ≤ u.toInt) (h1 : u.toInt ≤ n) (hn : n < 2147483648) : ∃ b, b ≤ n ∧ u = Int32.ofNat b := by
  refine ⟨u.toInt.toNat, by omega, ?_⟩
  rw [← Int32.toInt_inj, pq_ti (by omega)]
  omega
theorem pq_g1 (a u : Int32) (h : 0 ≤ a) : (a - 1 < u) ↔ a ≤ u := by grind
theorem pq_g2 (a b c : Int32) : a + b + c = c + b + a := by grind
theorem pq_g3 (a b c d s : Int32) : (1 * s - a) + (2 * s - b) + ((3 * s - c) + (4 * s - d)) = 10 * s - (a + b + c + d) := by grind
theorem pq_g4 (t : Int32) : (if 9 < t then 9 else t) = (if t < 9 then t else 9) := by grind
theorem pq_g5 (l h : Int32) (h0 : 0 ≤ l) (h1 : ¬ 0 < l) : l = 0 := by grind
def pq_fd (f : Nat → Int32 → Int32) : Nat → Nat → Int32 → Int32
  | _, 0, a => a
  | i, d + 1, a => pq_fd f (i + 1) d (f i a)
def pq_K (rf : rc_F) (c : Nat) : Prop := rf c 0 = c + 1 ∧ rf c 1 = c + 2 ∧ rf c 3 = c + 3 ∧ rf c 4 = c + 6 ∧ rf (c + 3) 0 = c + 4 ∧ rf (c + 3) 1 = c + 5 ∧ (∀ b, b < 8 → rf (c + 2) b = c + 7 + b) ∧ (∀ q, q < 12 → rf (c + 6) q = c + 15 + q)
theorem pq_k0 {rf : rc_F} {c : Nat} (h : pq_K rf c) : rf c 0 = c + 1 := h.1
theorem pq_k1 {rf : rc_F} {c : Nat} (h : pq_K rf c) : rf c 1 = c + 2 := h.2.1
theorem pq_k3 {rf : rc_F} {c : Nat} (h : pq_K rf c) : rf c 3 = c + 3 := h.2.2.1
theorem pq_k4 {rf : rc_F} {c : Nat} (h : pq_K rf c) : rf c 4 = c + 6 := h.2.2.2.1
theorem pq_kp {rf : rc_F} {c : Nat} (h : pq_K rf c) : rf (c + 3) 0 = c + 4 := h.2.2.2.2.1
theorem pq_ks {rf : rc_F} {c : Nat} (h : pq_K rf c) : rf (c + 3) 1 = c + 5 := h.2.2.2.2.2.1
theorem pq_kb {rf : rc_F} {c b : Nat} (h : pq_K rf c) (hb : b < 8) : rf (c + 2) b = c + 7 + b := h.2.2.2.2.2.2.1 b hb
theorem pq_kr {rf : rc_F} {c q : Nat} (h : pq_K rf c) (hq : q < 12) : rf (c + 6) q = c + 15 + q := h.2.2.2.2.2.2.2 q hq
/-- what the cellar at c holds, in the reference's order of numbers -/
def pq_R (σ : rc_S) (c : Nat) (g : Nat → Int32) (n p : Nat) : Prop :=
  (σ c 2 = g 0 ∧ σ (c + 3) 2 = g 1 ∧ σ c 6 = g 2 ∧ σ c 7 = g 3 ∧ σ c 5 = g 4 ∧ σ c 8 = g 5 ∧ σ c 9 = g 6 ∧ σ c 10 = g 7 ∧ σ c 11 = g 8 ∧ σ c 12 = g 9 ∧ σ c 13 = g 10) ∧
  (∀ r, r < 4 → σ (c + 1) r = g (11 + r)) ∧
  (∀ b, b < n → σ (c + 7 + b) 0 = g (15 + 6 * b) ∧ σ (c + 7 + b) 1 = g (16 + 6 * b) ∧ σ (c + 7 + b) 2 = g (17 + 6 * b) ∧ σ (c + 7 + b) 3 = g (18 + 6 * b) ∧ σ (c + 7 + b) 5 = g (19 + 6 * b) ∧ σ (c + 7 + b) 4 = g (20 + 6 * b)) ∧
  (∀ j, j < p → σ (c + 4) j = g (63 + 2 * j) ∧ σ (c + 5) j = g (64 + 2 * j)) ∧
  (∀ q, q < 12 → σ (c + 15 + q) 0 = g (71 + 3 * q) ∧ σ (c + 15 + q) 1 = g (72 + 3 * q) ∧ σ (c + 15 + q) 2 = g (73 + 3 * q))
section PQR
variable {σ : rc_S} {c : Nat} {g : Nat → Int32} {n p : Nat}
theorem pq_c0 (h : pq_R σ c g n p) : σ c 2 = g 0 := h.1.1
theorem pq_c1 (h : pq_R σ c g n p) : σ (c + 3) 2 = g 1 := h.1.2.1
theorem pq_c2 (h : pq_R σ c g n p) : σ c 6 = g 2 := h.1.2.2.1
theorem pq_c3 (h : pq_R σ c g n p) : σ c 7 = g 3 := h.1.2.2.2.1
theorem pq_c4 (h : pq_R σ c g n p) : σ c 5 = g 4 := h.1.2.2.2.2.1
theorem pq_c5 (h : pq_R σ c g n p) : σ c 8 = g 5 := h.1.2.2.2.2.2.1
theorem pq_c6 (h : pq_R σ c g n p) : σ c 9 = g 6 := h.1.2.2.2.2.2.2.1
theorem pq_c7 (h : pq_R σ c g n p) : σ c 10 = g 7 := h.1.2.2.2.2.2.2.2.1
theorem pq_c8 (h : pq_R σ c g n p) : σ c 11 = g 8 := h.1.2.2.2.2.2.2.2.2.1
theorem pq_c9 (h : pq_R σ c g n p) : σ c 12 = g 9 := h.1.2.2.2.2.2.2.2.2.2.1
theorem pq_c10 (h : pq_R σ c g n p) : σ c 13 = g 10 := h.1.2.2.2.2.2.2.2.2.2.2
theorem pq_cm (h : pq_R σ c g n p) {r : Nat} (hr : r < 4) : σ (c + 1) r = g (11 + r) := h.2.1 r hr
theorem pq_b0 (h : pq_R σ c g n p) {b : Nat} (hb : b < n) : σ (c + 7 + b) 0 = g (15 + 6 * b) := (h.2.2.1 b hb).1
theorem pq_b1 (h : pq_R σ c g n p) {b : Nat} (hb : b < n) : σ (c + 7 + b) 1 = g (16 + 6 * b) := (h.2.2.1 b hb).2.1
theorem pq_b2 (h : pq_R σ c g n p) {b : Nat} (hb : b < n) : σ (c + 7 + b) 2 = g (17 + 6 * b) := (h.2.2.1 b hb).2.2.1
theorem pq_b3 (h : pq_R σ c g n p) {b : Nat} (hb : b < n) : σ (c + 7 + b) 3 = g (18 + 6 * b) := (h.2.2.1 b hb).2.2.2.1
theorem pq_b4 (h : pq_R σ c g n p) {b : Nat} (hb : b < n) : σ (c + 7 + b) 5 = g (19 + 6 * b) := (h.2.2.1 b hb).2.2.2.2.1
theorem pq_b5 (h : pq_R σ c g n p) {b : Nat} (hb : b < n) : σ (c + 7 + b) 4 = g (20 + 6 * b) := (h.2.2.1 b hb).2.2.2.2.2
theorem pq_pp (h : pq_R σ c g n p) {j : Nat} (hj : j < p) : σ (c + 4) j = g (63 + 2 * j) := (h.2.2.2.1 j hj).1
theorem pq_ps (h : pq_R σ c g n p) {j : Nat} (hj : j < p) : σ (c + 5) j = g (64 + 2 * j) := (h.2.2.2.1 j hj).2
theorem pq_q0 (h : pq_R σ c g n p) {q : Nat} (hq : q < 12) : σ (c + 15 + q) 0 = g (71 + 3 * q) := (h.2.2.2.2 q hq).1
theorem pq_q1 (h : pq_R σ c g n p) {q : Nat} (hq : q < 12) : σ (c + 15 + q) 1 = g (72 + 3 * q) := (h.2.2.2.2 q hq).2.1
theorem pq_q2 (h : pq_R σ c g n p) {q : Nat} (hq : q < 12) : σ (c + 15 + q) 2 = g (73 + 3 * q) := (h.2.2.2.2 q hq).2.2
end PQR
/-- what always holds of the numbers; N: how many calls there were -/
def pq_V (g : Nat → Int32) (n p N : Nat) : Prop :=
  (g 0 = Int32.ofNat n ∧ n ≤ 8) ∧ (g 1 = Int32.ofNat p ∧ p ≤ 4) ∧ (0 ≤ (g 2).toInt ∧ (g 2).toInt ≤ 9) ∧ (0 ≤ (g 3).toInt ∧ (g 3).toInt ≤ N) ∧ (0 ≤ (g 4).toInt ∧ (g 4).toInt ≤ N) ∧
  (∀ r, r < 4 → 0 ≤ (g (11 + r)).toInt ∧ (g (11 + r)).toInt ≤ 9) ∧
  (∀ b, b < n → (0 ≤ (g (15 + 6 * b)).toInt ∧ (g (15 + 6 * b)).toInt ≤ 3) ∧ (0 ≤ (g (17 + 6 * b)).toInt ∧ (g (17 + 6 * b)).toInt ≤ (g (16 + 6 * b)).toInt ∧ (g (16 + 6 * b)).toInt ≤ 20) ∧
    (-1 ≤ (g (18 + 6 * b)).toInt ∧ (g (18 + 6 * b)).toInt ≤ N) ∧ (0 ≤ (g (19 + 6 * b)).toInt ∧ (g (19 + 6 * b)).toInt ≤ 9) ∧ (0 ≤ (g (20 + 6 * b)).toInt ∧ (g (20 + 6 * b)).toInt ≤ (g 3).toInt) ∧
    (g (16 + 6 * b) = 0 → g (17 + 6 * b) = 0 ∧ g (18 + 6 * b) = -1 ∧ g (19 + 6 * b) = 0 ∧ g (20 + 6 * b) = 0) ∧ (g (16 + 6 * b) ≠ 0 → 0 ≤ (g (18 + 6 * b)).toInt)) ∧
  (∀ j, j < p → (0 ≤ (g (63 + 2 * j)).toInt ∧ (g (63 + 2 * j)).toInt ≤ 9) ∧ (g (64 + 2 * j) = 0 ∨ g (64 + 2 * j) = 1))

theorem pq_bd {α β : Type} {v : α} {σ : rc_S} {f : α → rc_S → Option β} : rc_bd (some (v, σ)) f = f v σ := rfl
theorem pq_ck {α : Type} {x : Option α} : rc_ck true x = x := rfl
theorem pq_cd {α : Type} {x : Option α} {P : Prop} {d : Decidable P} (h : P) : rc_ck (@decide P d) x = x := by rw [decide_eq_true h]; rfl
theorem pq_bx {α β : Type} {v : α} {σ : rc_S} {d : β} {f : α → rc_S → Option (Nat × β × rc_S)} : rc_bx (some (0, v, σ)) d f = f v σ := rfl
theorem pq_bxk {α β : Type} {k : Nat} {v : α} {σ : rc_S} {d : β} {f : α → rc_S → Option (Nat × β × rc_S)} (h : k ≠ 0) : rc_bx (some (k, v, σ)) d f = some (k, d, σ) := if_neg h
theorem pq_i10 {P : Prop} {d : Decidable P} : ((if P then (1 : Int32) else 0) = 0) = ¬ P := by by_cases h : P <;> simp [h]
theorem pq_i01 {P : Prop} {d : Decidable P} : ((if P then (0 : Int32) else 1) = 0) = P := by by_cases h : P <;> simp [h]
theorem pq_nb {P : Prop} {d : Decidable P} : vp_nar .boolean (if P then (1 : Int32) else 0) = (if P then (1 : Int32) else 0) := by by_cases h : P <;> simp [h] <;> decide
theorem pq_fu (n : Nat) (h : n ≤ 90000) : rc_fu = (99999 - n) + n + 1 := by unfold rc_fu; omega
theorem pq_upE {σ : rc_S} {a k : Nat} {x : Int32} : rc_up σ a k x a = upd (σ a) k x := by simp [rc_up]
theorem pq_upN {σ : rc_S} {a b k : Nat} {x : Int32} (h : b ≠ a) : rc_up σ a k x b = σ b := by simp [rc_up, h]
theorem pq_udE {f : Nat → Int32} {k : Nat} {x : Int32} : upd f k x k = x := by simp [upd]
theorem pq_udN {f : Nat → Int32} {j k : Nat} {x : Int32} (h : j ≠ k) : upd f k x j = f j := by simp [upd, h]
section PQV
variable {g : Nat → Int32} {n p N b j r : Nat}
theorem pq_v0 (h : pq_V g n p N) : g 0 = Int32.ofNat n := h.1.1
theorem pq_vn (h : pq_V g n p N) : n ≤ 8 := h.1.2
theorem pq_v1 (h : pq_V g n p N) : g 1 = Int32.ofNat p := h.2.1.1
theorem pq_vp (h : pq_V g n p N) : p ≤ 4 := h.2.1.2
theorem pq_v2 (h : pq_V g n p N) : 0 ≤ (g 2).toInt ∧ (g 2).toInt ≤ 9 := h.2.2.1
theorem pq_v3 (h : pq_V g n p N) : 0 ≤ (g 3).toInt ∧ (g 3).toInt ≤ N := h.2.2.2.1
theorem pq_v4 (h : pq_V g n p N) : 0 ≤ (g 4).toInt ∧ (g 4).toInt ≤ N := h.2.2.2.2.1
theorem pq_vm (h : pq_V g n p N) (hr : r < 4) : 0 ≤ (g (11 + r)).toInt ∧ (g (11 + r)).toInt ≤ 9 := h.2.2.2.2.2.1 r hr
theorem pq_vr (h : pq_V g n p N) (hb : b < n) : 0 ≤ (g (15 + 6 * b)).toInt ∧ (g (15 + 6 * b)).toInt ≤ 3 := (h.2.2.2.2.2.2.1 b hb).1
theorem pq_vh (h : pq_V g n p N) (hb : b < n) : 0 ≤ (g (17 + 6 * b)).toInt ∧ (g (17 + 6 * b)).toInt ≤ (g (16 + 6 * b)).toInt ∧ (g (16 + 6 * b)).toInt ≤ 20 := (h.2.2.2.2.2.2.1 b hb).2.1
theorem pq_vby (h : pq_V g n p N) (hb : b < n) : -1 ≤ (g (18 + 6 * b)).toInt ∧ (g (18 + 6 * b)).toInt ≤ N := (h.2.2.2.2.2.2.1 b hb).2.2.1
theorem pq_vt (h : pq_V g n p N) (hb : b < n) : 0 ≤ (g (19 + 6 * b)).toInt ∧ (g (19 + 6 * b)).toInt ≤ 9 := (h.2.2.2.2.2.2.1 b hb).2.2.2.1
theorem pq_vs (h : pq_V g n p N) (hb : b < n) : 0 ≤ (g (20 + 6 * b)).toInt ∧ (g (20 + 6 * b)).toInt ≤ (g 3).toInt := (h.2.2.2.2.2.2.1 b hb).2.2.2.2.1
theorem pq_ve (h : pq_V g n p N) (hb : b < n) (h0 : g (16 + 6 * b) = 0) : g (17 + 6 * b) = 0 ∧ g (18 + 6 * b) = -1 ∧ g (19 + 6 * b) = 0 ∧ g (20 + 6 * b) = 0 := (h.2.2.2.2.2.2.1 b hb).2.2.2.2.2.1 h0
theorem pq_vb0 (h : pq_V g n p N) (hb : b < n) (h0 : g (16 + 6 * b) ≠ 0) : 0 ≤ (g (18 + 6 * b)).toInt := (h.2.2.2.2.2.2.1 b hb).2.2.2.2.2.2 h0
theorem pq_vpp (h : pq_V g n p N) (hj : j < p) : 0 ≤ (g (63 + 2 * j)).toInt ∧ (g (63 + 2 * j)).toInt ≤ 9 := (h.2.2.2.2.2.2.2 j hj).1
theorem pq_vps (h : pq_V g n p N) (hj : j < p) : g (64 + 2 * j) = 0 ∨ g (64 + 2 * j) = 1 := (h.2.2.2.2.2.2.2 j hj).2
end PQV
/-! what both sides compute -/
def pq_part (h l : Int32) : Int32 := if l = 0 then 0 else 100 * h / l
def pq_age (l y s : Int32) : Int32 := if l = 0 then 0 else y - s
def pq_tst (t a : Int32) : Int32 := if t + a / 2 ≤ 9 then t + a / 2 else 9
def pq_nt (h l t s y k : Int32) : Int32 := if l = 0 then 0 else pq_tst t ((y - s) + k) * (100 - pq_part h l) / 100
def pq_P (g : Nat → Int32) (b : Nat) : Int32 := pq_part (g (17 + 6 * b)) (g (16 + 6 * b))
def pq_A (g : Nat → Int32) (b : Nat) : Int32 := pq_age (g (16 + 6 * b)) (g 3) (g (20 + 6 * b))
def pq_N (g : Nat → Int32) (b : Nat) (k : Int32) : Int32 := pq_nt (g (17 + 6 * b)) (g (16 + 6 * b)) (g (19 + 6 * b)) (g (20 + 6 * b)) (g 3) k
def pq_ms (g : Nat → Int32) (me : Int32) (b : Nat) : Int32 := if me = 0 then g (16 + 6 * b) else if me = 1 then pq_N g b 0 else if me = 2 then pq_A g b else pq_P g b
def pq_ns (g : Nat → Int32) (p : Nat) (v : Int32) : Int32 := pq_fd (fun j a => if ¬ v ≤ 0 ∧ ¬ v ≤ 50 - 5 * (g (63 + 2 * j) + 2 * g (64 + 2 * j)) then a ||| ((1 : Int32) <<< ((Int32.ofNat j) &&& 31)) else a) 0 p 0

section PQ9
variable {rf : rc_F} {σ : rc_S} {m : Nat} {g : Nat → Int32} {n p N b j : Nat}
end PQ9

section PQ2
variable {rf : rc_F} {σ : rc_S} {c m a : Nat} {g : Nat → Int32} {n p N b j : Nat}
theorem pq_ge {x : Int32} (h : 0 ≤ x.toInt) : ¬ 0 < x → x = 0 := fun q => by
  rw [Int32.lt_iff_toInt_lt, Int32.toInt_zero] at q
  rw [← Int32.toInt_inj, Int32.toInt_zero]; omega
theorem pq_gp {x : Int32} (h : 0 < x) : x ≠ 0 := fun q => by subst q; exact absurd h (by decide)
theorem q0_empty : f_X0_isEmpty rf a σ = some (if σ a 1 = 0 then 1 else 0, σ) := by
  unfold f_X0_isEmpty; split <;> rfl
theorem q0_partW {u : Int32} (h0 : 0 ≤ (σ a 1 + u).toInt) : f_X0_hailPartWith rf a u σ = some (pq_part (σ a 2 + u) (σ a 1 + u), σ) := by
  simp only [f_X0_hailPartWith, rc_lt, pq_part]
  by_cases h : 0 < σ a 1 + u
  · simp only [h, if_true, if_neg (pq_gp h), pq_cd (pq_gp h)]
  · simp only [h, if_false, if_pos (pq_ge h0 h)]
theorem q0_part (h0 : 0 ≤ (σ a 1).toInt) : f_X0_hailPart rf a σ = some (pq_part (σ a 2) (σ a 1), σ) := by
  have e := q0_partW (rf := rf) (σ := σ) (a := a) (u := 0) (by rw [Int32.add_zero]; exact h0)
  rw [Int32.add_zero, Int32.add_zero] at e
  simp only [f_X0_hailPart, e, pq_bd]
theorem q0_age {y : Int32} : f_X0_ageIn rf a y σ = some (pq_age (σ a 1) y (σ a 4), σ) := by
  simp only [f_X0_ageIn, q0_empty, pq_bd, pq_i10, pq_age]
  by_cases h : σ a 1 = 0 <;> simp [h]
theorem q0_taste {t : Int32} (h0 : 0 ≤ (σ a 1).toInt) : f_X0_noteOfTaste rf a t σ = some (t * (100 - pq_part (σ a 2) (σ a 1)) / 100, σ) := by
  simp only [f_X0_noteOfTaste, q0_part h0, pq_bd]
theorem q0_at {y : Int32} (h0 : 0 ≤ (σ a 1).toInt) : f_X0_noteAtAge rf a y σ = some (pq_tst (σ a 5) y * (100 - pq_part (σ a 2) (σ a 1)) / 100, σ) := by
  simp only [f_X0_noteAtAge, q0_taste h0, pq_bd, pq_tst]
  by_cases h : σ a 5 + y / 2 ≤ 9
  · rw [if_neg (Int32.not_lt.mpr h), if_pos h]
  · rw [if_pos (Int32.not_le.mp h), if_neg h]
theorem q0_hailIn {u : Int32} (h0 : 0 ≤ (σ a 1).toInt) : f_X0_hailIn rf a u σ = some (if u * pq_part (σ a 2) (σ a 1) / 100 < u - (σ a 1 - σ a 2) then u - (σ a 1 - σ a 2) else u * pq_part (σ a 2) (σ a 1) / 100, σ) := by
  simp only [f_X0_hailIn, q0_part h0, pq_bd, rc_lt]
theorem q1_has (hR : pq_R σ c g n p) {u : Int32} : f_X1_hasBarrel rf c u σ = some (if ¬ u < 0 ∧ u < g 0 then 1 else 0, σ) := by
  simp only [f_X1_hasBarrel, pq_c0 hR]
  by_cases h1 : u < 0
  · simp [h1]
  · by_cases h2 : g 0 ≤ u
    · simp [h1, h2, Int32.not_lt.mpr h2]
    · simp [h1, h2, Int32.not_le.mp h2]
theorem q3_has (hR : pq_R σ c g n p) {u : Int32} : f_X3_has rf (c + 3) u σ = some (if ¬ u < 0 ∧ u < g 1 then 1 else 0, σ) := by
  simp only [f_X3_has, pq_c1 hR]
  by_cases h1 : u < 0
  · simp [h1]
  · by_cases h2 : g 1 ≤ u
    · simp [h1, h2, Int32.not_lt.mpr h2]
    · simp [h1, h2, Int32.not_le.mp h2]
theorem q1_part (hR : pq_R σ c g n p) (hV : pq_V g n p N) (hb : b < n) : f_X0_hailPart rf (c + 7 + b) σ = some (pq_P g b, σ) := by
  rw [q0_part (by rw [pq_b1 hR hb]; have := pq_vh hV hb; omega), pq_b1 hR hb, pq_b2 hR hb]; rfl
theorem q1_age (hR : pq_R σ c g n p) (hb : b < n) : f_X0_ageIn rf (c + 7 + b) (σ c 7) σ = some (pq_A g b, σ) := by
  rw [q0_age, pq_b1 hR hb, pq_b5 hR hb, pq_c3 hR]; rfl
theorem q1_ageY (hR : pq_R σ c g n p) (hb : b < n) : f_X0_ageIn rf (c + 7 + b) (g 3) σ = some (pq_A g b, σ) := by
  rw [q0_age, pq_b1 hR hb, pq_b5 hR hb]; rfl
theorem pq_n0 (hV : pq_V g n p N) (hb : b < n) {k : Int32} (h : k = 0 ∨ g (16 + 6 * b) ≠ 0) : pq_tst (g (19 + 6 * b)) (pq_A g b + k) * (100 - pq_P g b) / 100 = pq_N g b k := by
  unfold pq_N pq_nt pq_A pq_age
  by_cases h0 : g (16 + 6 * b) = 0
  · have e := pq_ve hV hb h0
    have hk : k = 0 := by rcases h with h | h; exact h; exact absurd h0 h
    simp only [h0, if_true, e.2.2.1, hk]
    rw [show pq_tst 0 (0 + 0) = 0 from by decide, Int32.zero_mul, Int32.zero_div]
  · simp only [h0, if_false]; rfl
theorem q1_at (hR : pq_R σ c g n p) (hV : pq_V g n p N) (hb : b < n) {y : Int32} : f_X0_noteAtAge rf (c + 7 + b) y σ = some (pq_tst (g (19 + 6 * b)) y * (100 - pq_P g b) / 100, σ) := by
  rw [q0_at (by rw [pq_b1 hR hb]; have := pq_vh hV hb; omega), pq_b1 hR hb, pq_b2 hR hb, pq_b4 hR hb]; rfl
theorem q1_note (hR : pq_R σ c g n p) (hV : pq_V g n p N) (hb : b < n) : f_X1_noteOf rf c (c + 7 + b) σ = some (pq_N g b 0, σ) := by
  have e := pq_n0 hV hb (k := 0) (Or.inl rfl)
  rw [Int32.add_zero] at e
  simp only [f_X1_noteOf, q1_age hR hb, pq_bd, q1_at hR hV hb, e]
theorem q3_notice (hK : pq_K rf c) (hR : pq_R σ c g n p) (hV : pq_V g n p N) (hj : j < p) {v : Int32} : f_X3_doesNotice rf (c + 3) (Int32.ofNat j) v σ = some (if ¬ v ≤ 0 ∧ ¬ v ≤ 50 - 5 * (g (63 + 2 * j) + 2 * g (64 + 2 * j)) then 1 else 0, σ) := by
  have h4 := pq_vp hV
  have e : f_X3_mildPalate rf (c + 3) (Int32.ofNat j) σ = some (g (63 + 2 * j) + 2 * g (64 + 2 * j), σ) := by
    rw [f_X3_mildPalate, pq_in (by omega) (by omega), pq_ck, pq_ck, pq_cl (by omega), pq_kp hK, pq_ks hK, pq_pp hR hj, pq_ps hR hj]
    rcases pq_vps hV hj with h | h
    · rw [if_pos h, h]; rfl
    · rw [if_neg (by rw [h]; decide), h]; rfl
  rw [f_X3_doesNotice, e, pq_bd]
  have e2 : f_X3_doesPalateNotice rf (g (63 + 2 * j) + 2 * g (64 + 2 * j)) v σ = some (if ¬ v ≤ 0 ∧ ¬ v ≤ 50 - 5 * (g (63 + 2 * j) + 2 * g (64 + 2 * j)) then 1 else 0, σ) := by
    unfold f_X3_doesPalateNotice
    by_cases h1 : v ≤ 0
    · simp [h1]
    · by_cases h2 : v ≤ 50 - 5 * (g (63 + 2 * j) + 2 * g (64 + 2 * j)) <;> simp [h1, h2]
  rw [e2, pq_bd, pq_cd pq_nb]
theorem q3_mild (hK : pq_K rf c) (hR : pq_R σ c g n p) (hV : pq_V g n p N) (hj : j < p) : f_X3_mildPalate rf (c + 3) (Int32.ofNat j) σ = some (g (63 + 2 * j) + 2 * g (64 + 2 * j), σ) := by
  have h4 := pq_vp hV
  rw [f_X3_mildPalate, pq_in (by omega) (by omega), pq_ck, pq_ck, pq_cl (by omega), pq_kp hK, pq_ks hK, pq_pp hR hj, pq_ps hR hj]
  rcases pq_vps hV hj with h | h
  · rw [if_pos h, h]; rfl
  · rw [if_neg (by rw [h]; decide), h]; rfl
theorem q1_meas (hK : pq_K rf c) (hR : pq_R σ c g n p) (hV : pq_V g n p N) (hb : b < n) {me : Int32} : f_X1_measureOf rf c (Int32.ofNat b) me σ = some (pq_ms g me b, σ) := by
  have h8 := pq_vn hV
  rw [f_X1_measureOf, pq_in (by omega) (by omega), pq_ck, pq_cl (by omega), pq_k1 hK, pq_kb hK (by omega)]
  simp only [pq_b1 hR hb, q1_note hR hV hb, q1_age hR hb, q1_part hR hV hb, pq_bd, pq_ms]
  by_cases h0 : me = 0
  · simp only [h0, if_true]
  · by_cases h1 : me = 1
    · simp only [h1, if_true, show ((1 : Int32) = 0) = False from by decide, if_false]
    · by_cases h2 : me = 2
      · simp only [h2, if_true, show ((2 : Int32) = 0) = False from by decide, show ((2 : Int32) = 1) = False from by decide, if_false]
      · simp only [h0, h1, h2, if_false]
theorem q_1_litresInBarrels_4 (hK : pq_K rf c) (hR : pq_R σ c g n p) (hV : pq_V g n p N) (K : Int32 → Int32 → rc_S → Option (Int32 × rc_S)) : ∀ (d fu i : Nat) (acc : Int32), i + d = n → f_X1_litresInBarrels_4 rf c K (fu + d + 1) acc (Int32.ofNat i) σ = K (pq_fd (fun b a => a + g (16 + 6 * b)) i d acc) (Int32.ofNat n) σ := by
  have h8 := pq_vn hV
  intro d
  induction d with
  | zero =>
    intro fu i acc h
    have hi : i = n := by omega
    subst hi
    rw [f_X1_litresInBarrels_4]
    simp (disch := omega) only [pq_c0 hR, pq_v0 hV, pq_le, Nat.le_refl, if_true, pq_fd]
  | succ d ih =>
    intro fu i acc h
    have hni : (n ≤ i) = False := by simp; omega
    rw [show fu + (d + 1) + 1 = (fu + d + 1) + 1 from rfl, f_X1_litresInBarrels_4]
    simp (disch := omega) only [pq_c0 hR, pq_v0 hV, pq_le, hni, if_false, pq_in, pq_cl, pq_ck, pq_bd, rc_lt, pq_s, pq_fd, pq_k1 hK, pq_kb hK, pq_b1 hR]
    rw [ih fu (i + 1) _ (by omega)]
theorem q_1_litresInBarrels (hK : pq_K rf c) (hR : pq_R σ c g n p) (hV : pq_V g n p N)  : f_X1_litresInBarrels rf c σ = some (pq_fd (fun b a => a + g (16 + 6 * b)) 0 n 0, σ) := by
  have hx := pq_vn hV
  rw [f_X1_litresInBarrels, pq_fu n (by omega)]
  exact q_1_litresInBarrels_4 hK hR hV _ n (99999 - n) 0 0 (by omega)
theorem q_1_hailInBarrels_4 (hK : pq_K rf c) (hR : pq_R σ c g n p) (hV : pq_V g n p N) (K : Int32 → Int32 → rc_S → Option (Int32 × rc_S)) : ∀ (d fu i : Nat) (acc : Int32), i + d = n → f_X1_hailInBarrels_4 rf c K (fu + d + 1) acc (Int32.ofNat i) σ = K (pq_fd (fun b a => a + g (17 + 6 * b)) i d acc) (Int32.ofNat n) σ := by
  have h8 := pq_vn hV
  intro d
  induction d with
  | zero =>
    intro fu i acc h
    have hi : i = n := by omega
    subst hi
    rw [f_X1_hailInBarrels_4]
    simp (disch := omega) only [pq_c0 hR, pq_v0 hV, pq_le, Nat.le_refl, if_true, pq_fd]
  | succ d ih =>
    intro fu i acc h
    have hni : (n ≤ i) = False := by simp; omega
    rw [show fu + (d + 1) + 1 = (fu + d + 1) + 1 from rfl, f_X1_hailInBarrels_4]
    simp (disch := omega) only [pq_c0 hR, pq_v0 hV, pq_le, hni, if_false, pq_in, pq_cl, pq_ck, pq_bd, rc_lt, pq_s, pq_fd, pq_k1 hK, pq_kb hK, pq_b2 hR]
    rw [ih fu (i + 1) _ (by omega)]
theorem q_1_hailInBarrels (hK : pq_K rf c) (hR : pq_R σ c g n p) (hV : pq_V g n p N)  : f_X1_hailInBarrels rf c σ = some (pq_fd (fun b a => a + g (17 + 6 * b)) 0 n 0, σ) := by
  have hx := pq_vn hV
  rw [f_X1_hailInBarrels, pq_fu n (by omega)]
  exact q_1_hailInBarrels_4 hK hR hV _ n (99999 - n) 0 0 (by omega)
theorem q_1_barrelsUnder_4 (hK : pq_K rf c) (hR : pq_R σ c g n p) (hV : pq_V g n p N) (r : Int32) (K : Int32 → Int32 → rc_S → Option (Int32 × rc_S)) : ∀ (d fu i : Nat) (acc : Int32), i + d = n → f_X1_barrelsUnder_4 rf c r K (fu + d + 1) acc (Int32.ofNat i) σ = K (pq_fd (fun b a => if g (15 + 6 * b) = r then a + 1 else a) i d acc) (Int32.ofNat n) σ := by
  have h8 := pq_vn hV
  intro d
  induction d with
  | zero =>
    intro fu i acc h
    have hi : i = n := by omega
    subst hi
    rw [f_X1_barrelsUnder_4]
    simp (disch := omega) only [pq_c0 hR, pq_v0 hV, pq_le, Nat.le_refl, if_true, pq_fd]
  | succ d ih =>
    intro fu i acc h
    have hni : (n ≤ i) = False := by simp; omega
    rw [show fu + (d + 1) + 1 = (fu + d + 1) + 1 from rfl, f_X1_barrelsUnder_4]
    simp (disch := omega) only [pq_c0 hR, pq_v0 hV, pq_le, hni, if_false, pq_in, pq_cl, pq_ck, pq_bd, rc_lt, pq_s, pq_fd, pq_k1 hK, pq_kb hK, pq_b0 hR]
    by_cases hc : g (15 + 6 * i) = r
    · simp only [hc, if_true, if_false, not_true, not_false_eq_true, Int32.add_zero, ↓reduceIte]
      rw [ih fu (i + 1) _ (by omega)]
    · simp only [hc, if_true, if_false, not_true, not_false_eq_true, Int32.add_zero, ↓reduceIte]
      rw [ih fu (i + 1) _ (by omega)]
theorem q_1_barrelsUnder (hK : pq_K rf c) (hR : pq_R σ c g n p) (hV : pq_V g n p N) {r : Int32} : f_X1_barrelsUnder rf c r σ = some (pq_fd (fun b a => if g (15 + 6 * b) = r then a + 1 else a) 0 n 0, σ) := by
  have hx := pq_vn hV
  rw [f_X1_barrelsUnder, pq_fu n (by omega)]
  exact q_1_barrelsUnder_4 hK hR hV r _ n (99999 - n) 0 0 (by omega)
theorem q_1_litresUnder_4 (hK : pq_K rf c) (hR : pq_R σ c g n p) (hV : pq_V g n p N) (r : Int32) (K : Int32 → Int32 → rc_S → Option (Int32 × rc_S)) : ∀ (d fu i : Nat) (acc : Int32), i + d = n → f_X1_litresUnder_4 rf c r K (fu + d + 1) acc (Int32.ofNat i) σ = K (pq_fd (fun b a => if g (15 + 6 * b) = r then a + g (16 + 6 * b) else a) i d acc) (Int32.ofNat n) σ := by
  have h8 := pq_vn hV
  intro d
  induction d with
  | zero =>
    intro fu i acc h
    have hi : i = n := by omega
    subst hi
    rw [f_X1_litresUnder_4]
    simp (disch := omega) only [pq_c0 hR, pq_v0 hV, pq_le, Nat.le_refl, if_true, pq_fd]
  | succ d ih =>
    intro fu i acc h
    have hni : (n ≤ i) = False := by simp; omega
    rw [show fu + (d + 1) + 1 = (fu + d + 1) + 1 from rfl, f_X1_litresUnder_4]
    simp (disch := omega) only [pq_c0 hR, pq_v0 hV, pq_le, hni, if_false, pq_in, pq_cl, pq_ck, pq_bd, rc_lt, pq_s, pq_fd, pq_k1 hK, pq_kb hK, pq_b0 hR, pq_b1 hR]
    by_cases hc : g (15 + 6 * i) = r
    · simp only [hc, if_true, if_false, not_true, not_false_eq_true, Int32.add_zero, ↓reduceIte]
      rw [ih fu (i + 1) _ (by omega)]
    · simp only [hc, if_true, if_false, not_true, not_false_eq_true, Int32.add_zero, ↓reduceIte]
      rw [ih fu (i + 1) _ (by omega)]
theorem q_1_litresUnder (hK : pq_K rf c) (hR : pq_R σ c g n p) (hV : pq_V g n p N) {r : Int32} : f_X1_litresUnder rf c r σ = some (pq_fd (fun b a => if g (15 + 6 * b) = r then a + g (16 + 6 * b) else a) 0 n 0, σ) := by
  have hx := pq_vn hV
  rw [f_X1_litresUnder, pq_fu n (by omega)]
  exact q_1_litresUnder_4 hK hR hV r _ n (99999 - n) 0 0 (by omega)
theorem q_1_litresOfStorm_4 (hK : pq_K rf c) (hR : pq_R σ c g n p) (hV : pq_V g n p N) (r : Int32) (K : Int32 → Int32 → rc_S → Option (Int32 × rc_S)) : ∀ (d fu i : Nat) (acc : Int32), i + d = n → f_X1_litresOfStorm_4 rf c r K (fu + d + 1) acc (Int32.ofNat i) σ = K (pq_fd (fun b a => if g (18 + 6 * b) = r then a + g (16 + 6 * b) else a) i d acc) (Int32.ofNat n) σ := by
  have h8 := pq_vn hV
  intro d
  induction d with
  | zero =>
    intro fu i acc h
    have hi : i = n := by omega
    subst hi
    rw [f_X1_litresOfStorm_4]
    simp (disch := omega) only [pq_c0 hR, pq_v0 hV, pq_le, Nat.le_refl, if_true, pq_fd]
  | succ d ih =>
    intro fu i acc h
    have hni : (n ≤ i) = False := by simp; omega
    rw [show fu + (d + 1) + 1 = (fu + d + 1) + 1 from rfl, f_X1_litresOfStorm_4]
    simp (disch := omega) only [pq_c0 hR, pq_v0 hV, pq_le, hni, if_false, pq_in, pq_cl, pq_ck, pq_bd, rc_lt, pq_s, pq_fd, pq_k1 hK, pq_kb hK, pq_b3 hR, pq_b1 hR]
    by_cases hc : g (18 + 6 * i) = r
    · simp only [hc, if_true, if_false, not_true, not_false_eq_true, Int32.add_zero, ↓reduceIte]
      rw [ih fu (i + 1) _ (by omega)]
    · simp only [hc, if_true, if_false, not_true, not_false_eq_true, Int32.add_zero, ↓reduceIte]
      rw [ih fu (i + 1) _ (by omega)]
theorem q_1_litresOfStorm (hK : pq_K rf c) (hR : pq_R σ c g n p) (hV : pq_V g n p N) {r : Int32} : f_X1_litresOfStorm rf c r σ = some (pq_fd (fun b a => if g (18 + 6 * b) = r then a + g (16 + 6 * b) else a) 0 n 0, σ) := by
  have hx := pq_vn hV
  rw [f_X1_litresOfStorm, pq_fu n (by omega)]
  exact q_1_litresOfStorm_4 hK hR hV r _ n (99999 - n) 0 0 (by omega)
theorem q_1_emptyUnder_4 (hK : pq_K rf c) (hR : pq_R σ c g n p) (hV : pq_V g n p N) (r : Int32) (K : Int32 → Int32 → rc_S → Option (Int32 × rc_S)) : ∀ (d fu i : Nat) (acc : Int32), i + d = n → f_X1_emptyUnder_4 rf c r K (fu + d + 1) acc (Int32.ofNat i) σ = K (pq_fd (fun b a => if g (15 + 6 * b) = r ∧ g (16 + 6 * b) = 0 then a + 1 else a) i d acc) (Int32.ofNat n) σ := by
  have h8 := pq_vn hV
  intro d
  induction d with
  | zero =>
    intro fu i acc h
    have hi : i = n := by omega
    subst hi
    rw [f_X1_emptyUnder_4]
    simp (disch := omega) only [pq_c0 hR, pq_v0 hV, pq_le, Nat.le_refl, if_true, pq_fd]
  | succ d ih =>
    intro fu i acc h
    have hni : (n ≤ i) = False := by simp; omega
    rw [show fu + (d + 1) + 1 = (fu + d + 1) + 1 from rfl, f_X1_emptyUnder_4]
    simp (disch := omega) only [pq_c0 hR, pq_v0 hV, pq_le, hni, if_false, pq_in, pq_cl, pq_ck, pq_bd, rc_lt, pq_s, pq_fd, pq_k1 hK, pq_kb hK, pq_b0 hR, pq_b1 hR, q0_empty, pq_i10]
    by_cases hc : g (15 + 6 * i) = r
    · by_cases h2 : g (16 + 6 * i) = 0
      · rw [if_pos hc, if_neg (fun z => z h2), if_pos ⟨hc, h2⟩, ih fu (i + 1) _ (by omega)]
      · rw [if_pos hc, if_pos h2, if_neg (fun z => h2 z.2), Int32.add_zero, ih fu (i + 1) _ (by omega)]
    · rw [if_neg hc, if_neg (fun z => hc z.1), Int32.add_zero, ih fu (i + 1) _ (by omega)]
theorem q_1_emptyUnder (hK : pq_K rf c) (hR : pq_R σ c g n p) (hV : pq_V g n p N) {r : Int32} : f_X1_emptyUnder rf c r σ = some (pq_fd (fun b a => if g (15 + 6 * b) = r ∧ g (16 + 6 * b) = 0 then a + 1 else a) 0 n 0, σ) := by
  have hx := pq_vn hV
  rw [f_X1_emptyUnder, pq_fu n (by omega)]
  exact q_1_emptyUnder_4 hK hR hV r _ n (99999 - n) 0 0 (by omega)
theorem q_3_noses_4 (hK : pq_K rf c) (hR : pq_R σ c g n p) (hV : pq_V g n p N) (v : Int32) (K : Int32 → Int32 → rc_S → Option (Int32 × rc_S)) : ∀ (d fu i : Nat) (acc : Int32), i + d = p → f_X3_thoseWhoNotice_4 rf (c + 3) v K (fu + d + 1) acc (Int32.ofNat i) σ = K (pq_fd (fun j a => if ¬ v ≤ 0 ∧ ¬ v ≤ 50 - 5 * (g (63 + 2 * j) + 2 * g (64 + 2 * j)) then a ||| ((1 : Int32) <<< ((Int32.ofNat j) &&& 31)) else a) i d acc) (Int32.ofNat p) σ := by
  have h8 := pq_vp hV
  intro d
  induction d with
  | zero =>
    intro fu i acc h
    have hi : i = p := by omega
    subst hi
    rw [f_X3_thoseWhoNotice_4]
    simp (disch := omega) only [pq_c1 hR, pq_v1 hV, pq_le, Nat.le_refl, if_true, pq_fd]
  | succ d ih =>
    intro fu i acc h
    have hni : (p ≤ i) = False := by simp; omega
    rw [show fu + (d + 1) + 1 = (fu + d + 1) + 1 from rfl, f_X3_thoseWhoNotice_4]
    simp (disch := omega) only [pq_c1 hR, pq_v1 hV, pq_le, hni, if_false, pq_in, pq_cl, pq_ck, pq_bd, rc_lt, pq_s, pq_fd, q3_notice hK hR hV, pq_i10]
    by_cases hc : ¬ v ≤ 0 ∧ ¬ v ≤ 50 - 5 * (g (63 + 2 * i) + 2 * g (64 + 2 * i))
    · rw [if_neg (fun z => z hc), if_pos hc, ih fu (i + 1) _ (by omega)]
    · rw [if_pos hc, if_neg hc, ih fu (i + 1) _ (by omega)]
theorem q_3_noses (hK : pq_K rf c) (hR : pq_R σ c g n p) (hV : pq_V g n p N) {v : Int32} : f_X3_thoseWhoNotice rf (c + 3) v σ = some (pq_ns g p v, σ) := by
  have hx := pq_vp hV
  rw [f_X3_thoseWhoNotice, pq_fu p (by omega)]
  exact q_3_noses_4 hK hR hV v _ p (99999 - p) 0 0 (by omega)
theorem q_3_best_4 (hK : pq_K rf c) (hR : pq_R σ c g n p) (hV : pq_V g n p N) (v : Int32) (K : Int32 → Int32 → rc_S → Option (Int32 × rc_S)) : ∀ (d fu i : Nat) (acc : Int32), i + d = p → f_X3_doesBestNotice_4 rf (c + 3) v K (fu + d + 1) acc (Int32.ofNat i) σ = K (pq_fd (fun j a => if a < g (63 + 2 * j) + 2 * g (64 + 2 * j) then g (63 + 2 * j) + 2 * g (64 + 2 * j) else a) i d acc) (Int32.ofNat p) σ := by
  have h8 := pq_vp hV
  intro d
  induction d with
  | zero =>
    intro fu i acc h
    have hi : i = p := by omega
    subst hi
    rw [f_X3_doesBestNotice_4]
    simp (disch := omega) only [pq_c1 hR, pq_v1 hV, pq_le, Nat.le_refl, if_true, pq_fd]
  | succ d ih =>
    intro fu i acc h
    have hni : (p ≤ i) = False := by simp; omega
    rw [show fu + (d + 1) + 1 = (fu + d + 1) + 1 from rfl, f_X3_doesBestNotice_4]
    simp (disch := omega) only [pq_c1 hR, pq_v1 hV, pq_le, hni, if_false, pq_in, pq_cl, pq_ck, pq_bd, rc_lt, pq_s, pq_fd, q3_mild hK hR hV]
    rw [ih fu (i + 1) _ (by omega)]
theorem q_1_placeOf_13 (hK : pq_K rf c) (hR : pq_R σ c g n p) (hV : pq_V g n p N) (v1 me own : Int32) (K : Int32 → Int32 → rc_S → Option (Int32 × rc_S)) : ∀ (d fu i : Nat) (acc : Int32), i + d = n → f_X1_placeOf_13 rf c v1 me own K (fu + d + 1) acc (Int32.ofNat i) σ = K (pq_fd (fun b a => if own < pq_ms g me b ∨ (pq_ms g me b = own ∧ Int32.ofNat b < v1) then a + 1 else a) i d acc) (Int32.ofNat n) σ := by
  have h8 := pq_vn hV
  intro d
  induction d with
  | zero =>
    intro fu i acc h
    have hi : i = n := by omega
    subst hi
    rw [f_X1_placeOf_13]
    simp (disch := omega) only [pq_c0 hR, pq_v0 hV, pq_le, Nat.le_refl, if_true, pq_fd]
  | succ d ih =>
    intro fu i acc h
    have hni : (n ≤ i) = False := by simp; omega
    rw [show fu + (d + 1) + 1 = (fu + d + 1) + 1 from rfl, f_X1_placeOf_13]
    simp (disch := omega) only [pq_c0 hR, pq_v0 hV, pq_le, hni, if_false, pq_in, pq_cl, pq_ck, pq_bd, rc_lt, pq_s, pq_fd, q1_meas hK hR hV]
    by_cases hc : own < pq_ms g me i
    · rw [if_pos hc, if_pos (Or.inl hc), ih fu (i + 1) _ (by omega)]
    · by_cases h2 : pq_ms g me i = own
      · by_cases h3 : v1 ≤ Int32.ofNat i
        · rw [if_neg hc, if_pos h2, if_pos h3, if_neg (fun z => by rcases z with z | z; exact hc z; exact Int32.not_le.mpr z.2 h3), Int32.add_zero, ih fu (i + 1) _ (by omega)]
        · rw [if_neg hc, if_pos h2, if_neg h3, if_pos (Or.inr ⟨h2, Int32.not_le.mp h3⟩), ih fu (i + 1) _ (by omega)]
      · rw [if_neg hc, if_neg h2, if_neg (fun z => by rcases z with z | z; exact hc z; exact h2 z.1), Int32.add_zero, ih fu (i + 1) _ (by omega)]
def pq_pl (g : Nat → Int32) (n : Nat) (me : Int32) (b : Nat) : Int32 := pq_fd (fun k a => if pq_ms g me b < pq_ms g me k ∨ (pq_ms g me k = pq_ms g me b ∧ Int32.ofNat k < Int32.ofNat b) then a + 1 else a) 0 n 0
theorem q_1_placeOf (hK : pq_K rf c) (hR : pq_R σ c g n p) (hV : pq_V g n p N) (hb : b < n) {me : Int32} : f_X1_placeOf rf c (Int32.ofNat b) me σ = some (pq_pl g n me b, σ) := by
  have hx := pq_vn hV
  rw [f_X1_placeOf, q1_meas hK hR hV hb, pq_bd, pq_fu n (by omega)]
  exact q_1_placeOf_13 hK hR hV _ _ _ _ n (99999 - n) 0 0 (by omega)
end PQ2

