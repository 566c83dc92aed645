/-! SUMS AND COUNTS -/
def is (f : Nat → Int32) : Nat → Nat → Int32
  | _, 0 => 0
  | i, d + 1 => f i + is f (i + 1) d
def nc (f : Nat → Bool) : Nat → Nat → Nat
  | _, 0 => 0
  | i, d + 1 => (if f i = true then 1 else 0) + nc f (i + 1) d
theorem is_fd {f : Nat → Int32} : ∀ (d i : Nat) (a : Int32), pq_fd (fun b a => a + f b) i d a = a + is f i d
  | 0, i, a => by simp only [pq_fd, is, Int32.add_zero]
  | d + 1, i, a => by
    simp only [pq_fd, is]
    rw [is_fd d (i + 1), Int32.add_assoc]
theorem is_if {P : Nat → Prop} [∀ b, Decidable (P b)] {f : Nat → Int32} : (fun (b : Nat) (a : Int32) => if P b then a + f b else a) = fun b a => a + (if P b then f b else 0) := by
  funext b a
  by_cases h : P b
  · rw [if_pos h, if_pos h]
  · rw [if_neg h, if_neg h, Int32.add_zero]
theorem is_c {f h : Nat → Int32} : ∀ (d i : Nat), (∀ b, i ≤ b → b < i + d → f b = h b) → is f i d = is h i d
  | 0, i, _ => rfl
  | d + 1, i, q => by
    simp only [is]
    rw [q i (Nat.le_refl i) (by omega), is_c d (i + 1) (fun b h1 h2 => q b (by omega) (by omega))]
theorem is_a {f h : Nat → Int32} : ∀ (d i : Nat), is (fun b => f b + h b) i d = is f i d + is h i d
  | 0, i => rfl
  | d + 1, i => by
    simp only [is]
    rw [is_a d (i + 1)]
    grind
theorem is_z : ∀ (d i : Nat), is (fun _ => (0 : Int32)) i d = 0
  | 0, i => rfl
  | d + 1, i => by simp only [is]; rw [is_z d (i + 1)]; rfl
theorem is_1 : ∀ (d i : Nat), is (fun _ => (1 : Int32)) i d = Int32.ofNat d
  | 0, i => rfl
  | d + 1, i => by
    simp only [is]
    rw [is_1 d (i + 1), Int32.add_comm, pq_s]
/-- the order of two sums does not matter -/
theorem is_x {F : Nat → Nat → Int32} (i2 d2 : Nat) : ∀ (d i : Nat), is (fun k => is (fun b => F k b) i2 d2) i d = is (fun b => is (fun k => F k b) i d) i2 d2
  | 0, i => by simp only [is]; rw [is_z]
  | d + 1, i => by
    simp only [is]
    rw [is_x i2 d2 d (i + 1), ← is_a]
/-- just one term -/
theorem is_o {s : Nat} {v : Int32} : ∀ (d i : Nat), i + d < 2147483648 → s < 2147483648 → is (fun k => if Int32.ofNat s = Int32.ofNat k then v else 0) i d = if i ≤ s ∧ s < i + d then v else 0
  | 0, i, _, _ => by rw [if_neg (by omega)]; rfl
  | d + 1, i, h1, h2 => by
    simp only [is]
    rw [is_o d (i + 1) (by omega) h2]
    by_cases h : s = i
    · subst h
      rw [if_pos rfl, if_neg (by omega), if_pos (by omega), Int32.add_zero]
    · rw [if_neg (fun q => h ((pq_eq (by omega) (by omega)).mp q)), Int32.zero_add]
      by_cases hc : i + 1 ≤ s ∧ s < i + 1 + d
      · rw [if_pos hc, if_pos (by omega)]
      · rw [if_neg hc, if_neg (by omega)]
theorem nc_fd {P : Nat → Prop} [∀ b, Decidable (P b)] : ∀ (d i A : Nat), pq_fd (fun b a => if P b then a + 1 else a) i d (Int32.ofNat A) = Int32.ofNat (A + nc (fun b => decide (P b)) i d)
  | 0, i, A => rfl
  | d + 1, i, A => by
    simp only [pq_fd, nc]
    by_cases h : P i
    · rw [if_pos h, if_pos (decide_eq_true h), pq_s, nc_fd d (i + 1) (A + 1), Nat.add_assoc]
    · rw [if_neg h, if_neg (by rw [decide_eq_true_eq]; exact h), nc_fd d (i + 1) A, Nat.zero_add]
theorem nc_le {f h : Nat → Bool} : ∀ (d i : Nat), (∀ b, i ≤ b → b < i + d → f b = true → h b = true) → nc f i d ≤ nc h i d
  | 0, i, _ => Nat.le_refl _
  | d + 1, i, q => by
    simp only [nc]
    have := nc_le d (i + 1) (fun b h1 h2 => q b (by omega) (by omega))
    by_cases hf : f i = true
    · rw [if_pos hf, if_pos (q i (Nat.le_refl i) (by omega) hf)]; omega
    · rw [if_neg hf]; omega
theorem nc_lt {f h : Nat → Bool} {c : Nat} (h1 : f c = false) (h2 : h c = true) : ∀ (d i : Nat), i ≤ c → c < i + d → (∀ b, i ≤ b → b < i + d → f b = true → h b = true) → nc f i d < nc h i d
  | 0, i, c1, c2, _ => by omega
  | d + 1, i, c1, c2, q => by
    simp only [nc]
    by_cases e : c = i
    · subst e
      have := nc_le (f := f) (h := h) d (c + 1) (fun b h1 h2 => q b (by omega) (by omega))
      rw [if_neg (by rw [h1]; decide), if_pos h2]
      omega
    · have := nc_lt h1 h2 d (i + 1) (by omega) (by omega) (fun b h1 h2 => q b (by omega) (by omega))
      by_cases hf : f i = true
      · rw [if_pos hf, if_pos (q i (Nat.le_refl i) (by omega) hf)]; omega
      · rw [if_neg hf]; omega
theorem nc_d {f : Nat → Bool} : ∀ (d i : Nat), nc f i d ≤ d
  | 0, i => Nat.le_refl _
  | d + 1, i => by
    simp only [nc]
    have := nc_d (f := f) d (i + 1)
    split <;> omega
theorem nc_n {f : Nat → Bool} {c : Nat} (h1 : f c = false) : ∀ (d i : Nat), i ≤ c → c < i + d → nc f i d < d
  | 0, i, c1, c2 => by omega
  | d + 1, i, c1, c2 => by
    simp only [nc]
    by_cases e : c = i
    · subst e
      have := nc_d (f := f) d (c + 1)
      rw [if_neg (by rw [h1]; decide)]
      omega
    · have := nc_n h1 d (i + 1) (by omega) (by omega)
      split <;> omega
/-- as many places as there are things: each is taken -/
theorem pb_php : ∀ (n : Nat) (f : Nat → Nat), (∀ i, i < n → f i < n) → (∀ i j, i < n → j < n → f i = f j → i = j) → ∀ k, k < n → ∃ i, i < n ∧ f i = k
  | 0, _, _, _, k, hk => by omega
  | n + 1, f, h1, h2, k, hk => by
    by_cases hk0 : k = f n
    · exact ⟨n, by omega, hk0.symm⟩
    have hm := h1 n (by omega)
    have ih := pb_php n (fun i => if f i = n then f n else f i) (fun i hi => by
      have a := h1 i (by omega)
      by_cases q : f i = n
      · have : f n ≠ n := fun z => by have := h2 i n (by omega) (by omega) (q.trans z.symm); omega
        simp only [if_pos q]; omega
      · simp only [if_neg q]; omega) (fun i j hi hj e => by
      have a : f i ≠ f n := fun z => by have := h2 i n (by omega) (by omega) z; omega
      have b : f j ≠ f n := fun z => by have := h2 j n (by omega) (by omega) z; omega
      by_cases q : f i = n <;> by_cases r : f j = n
      · exact h2 i j (by omega) (by omega) (q.trans r.symm)
      · simp only [if_pos q, if_neg r] at e; exact absurd e.symm b
      · simp only [if_neg q, if_pos r] at e; exact absurd e a
      · simp only [if_neg q, if_neg r] at e; exact h2 i j (by omega) (by omega) e)
    by_cases hn : k = n
    · obtain ⟨i, hi, e⟩ := ih (f n) (by omega)
      have a : f i ≠ f n := fun z => by have := h2 i n (by omega) (by omega) z; omega
      by_cases q : f i = n
      · exact ⟨i, by omega, q.trans hn.symm⟩
      · simp only [if_neg q] at e; exact absurd e a
    · obtain ⟨i, hi, e⟩ := ih k (by omega)
      by_cases q : f i = n
      · simp only [if_pos q] at e; exact absurd e.symm hk0
      · simp only [if_neg q] at e; exact ⟨i, by omega, e⟩
theorem nc_c {f h : Nat → Bool} : ∀ (d i : Nat), (∀ b, i ≤ b → b < i + d → f b = h b) → nc f i d = nc h i d
  | 0, i, _ => rfl
  | d + 1, i, q => by
    simp only [nc]
    rw [q i (Nat.le_refl i) (by omega), nc_c d (i + 1) (fun b h1 h2 => q b (by omega) (by omega))]
