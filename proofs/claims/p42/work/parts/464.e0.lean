/-! THE NEW OBJECT AND THE NEW MODEL: their world -/
def g_all : rl_L := g_X8_init
def w_sh (x : Nat) : Nat → Nat := fun b => if x ≤ b ∧ b < x + 308 then (g_all (b - x)).1 else 0
def w_rf (x : Nat) : rc_F := fun b => rl_q x (g_all (b - x)).2.1
def w_σ (x : Nat) : rc_S := fun b => (g_all (b - x)).2.2
theorem w_sh_at {x j : Nat} (h : j < 308) : w_sh x (x + j) = (g_all j).1 := by
  unfold w_sh
  rw [if_pos ⟨by omega, by omega⟩, Nat.add_sub_cancel_left]
theorem w_rf_at {x j : Nat} : w_rf x (x + j) = rl_q x (g_all j).2.1 := by
  unfold w_rf
  rw [Nat.add_sub_cancel_left]
theorem w_σ_at {x j : Nat} : w_σ x (x + j) = (g_all j).2.2 := by
  unfold w_σ
  rw [Nat.add_sub_cancel_left]
theorem w_rf_to {x : Nat} (j k : Nat) {o : Nat} (h : (g_all j).2.1 k = o) (ho : o ≠ 0) : w_rf x (x + j) k = x + o := by
  rw [w_rf_at]
  unfold rl_q
  rw [h, if_neg ho]
theorem w_n {x : Nat} (j k : Nat) {v : Int32} (h : (g_all j).2.2 k = v) : w_σ x (x + j) k = v := by
  rw [w_σ_at]
  exact h
/-- the kind of what a reference points to -/
def w_s (j k : Nat) : Nat := if (g_all j).2.1 k = 0 ∨ 308 ≤ (g_all j).2.1 k then 0 else (g_all ((g_all j).2.1 k)).1
theorem w_st {x j k t : Nat} (h : w_s j k = t) (ht : t ≠ 0) : w_sh x (w_rf x (x + j) k) = t := by
  unfold w_s at h
  by_cases hc : (g_all j).2.1 k = 0 ∨ 308 ≤ (g_all j).2.1 k
  · rw [if_pos hc] at h
    exact absurd h.symm ht
  · rw [if_neg hc] at h
    rw [w_rf_to j k rfl (fun e => hc (Or.inl e)), w_sh_at (by omega)]
    exact h
theorem w_nz {x j k t : Nat} (h : w_s j k = t) (ht : t ≠ 0) : rl_q x (g_all j).2.1 k ≠ 0 := by
  unfold w_s at h
  by_cases hc : (g_all j).2.1 k = 0 ∨ 308 ≤ (g_all j).2.1 k
  · rw [if_pos hc] at h
    exact absurd h.symm ht
  · unfold rl_q
    rw [if_neg (fun e => hc (Or.inl e))]
    intro e
    apply hc
    left
    omega
def w_ck (j : Nat) : Bool := match (g_all j).1 with
  | 2 => w_s j 0 == 20 && (w_s j 1 == 25 && (w_s j 3 == 4 && w_s j 4 == 27))
  | 3 => w_s j 0 == 26
  | 4 => w_s j 0 == 20 && w_s j 1 == 21
  | 7 => w_s j 0 == 22 && (w_s j 2 == 22 && w_s j 3 == 23)
  | 8 => w_s j 0 == 2 && w_s j 1 == 6
  | 9 => w_s j 0 == 8 && (w_s j 1 == 2 && (w_s j 2 == 6 && (w_s j 3 == 2 && (w_s j 5 == 3 && (w_s j 6 == 7 && w_s j 8 == 11)))))
  | 11 => w_s j 0 == 24
  | 25 => (List.range 8).all (fun k => w_s j k == 1)
  | 26 => (List.range 9).all (fun k => w_s j k == 2)
  | 27 => (List.range 12).all (fun k => w_s j k == 5)
  | _ => true
set_option maxRecDepth 20000 in
theorem w_cks : (List.range 308).all w_ck = true := by decide +kernel
def w_tags : List Nat := [1, 2, 3, 4, 5, 6, 7, 8, 9, 11, 20, 21, 22, 23, 24, 25, 26, 27]
set_option maxRecDepth 20000 in
theorem w_tag : (List.range 308).all (fun j => w_tags.contains (g_all j).1) = true := by decide +kernel
theorem w_ck1 {j : Nat} (h : j < 308) : w_ck j = true := List.all_eq_true.mp w_cks j (List.mem_range.mpr h)
theorem w_tag1 {j : Nat} (h : j < 308) : (g_all j).1 ∈ w_tags := List.contains_iff_mem.mp (List.all_eq_true.mp w_tag j (List.mem_range.mpr h))
theorem w_c2 {j : Nat} (h : j < 308) (e : (g_all j).1 = 2) : w_s j 0 = 20 ∧ w_s j 1 = 25 ∧ w_s j 3 = 4 ∧ w_s j 4 = 27 := by
  have hk := w_ck1 h
  unfold w_ck at hk
  rw [e] at hk
  simpa only [Bool.and_eq_true, beq_iff_eq] using hk
theorem w_c3 {j : Nat} (h : j < 308) (e : (g_all j).1 = 3) : w_s j 0 = 26 := by
  have hk := w_ck1 h
  unfold w_ck at hk
  rw [e] at hk
  simpa only [Bool.and_eq_true, beq_iff_eq] using hk
theorem w_c4 {j : Nat} (h : j < 308) (e : (g_all j).1 = 4) : w_s j 0 = 20 ∧ w_s j 1 = 21 := by
  have hk := w_ck1 h
  unfold w_ck at hk
  rw [e] at hk
  simpa only [Bool.and_eq_true, beq_iff_eq] using hk
theorem w_c7 {j : Nat} (h : j < 308) (e : (g_all j).1 = 7) : w_s j 0 = 22 ∧ w_s j 2 = 22 ∧ w_s j 3 = 23 := by
  have hk := w_ck1 h
  unfold w_ck at hk
  rw [e] at hk
  simpa only [Bool.and_eq_true, beq_iff_eq] using hk
theorem w_c8 {j : Nat} (h : j < 308) (e : (g_all j).1 = 8) : w_s j 0 = 2 ∧ w_s j 1 = 6 := by
  have hk := w_ck1 h
  unfold w_ck at hk
  rw [e] at hk
  simpa only [Bool.and_eq_true, beq_iff_eq] using hk
theorem w_c9 {j : Nat} (h : j < 308) (e : (g_all j).1 = 9) : w_s j 0 = 8 ∧ w_s j 1 = 2 ∧ w_s j 2 = 6 ∧ w_s j 3 = 2 ∧ w_s j 5 = 3 ∧ w_s j 6 = 7 ∧ w_s j 8 = 11 := by
  have hk := w_ck1 h
  unfold w_ck at hk
  rw [e] at hk
  simpa only [Bool.and_eq_true, beq_iff_eq] using hk
theorem w_c11 {j : Nat} (h : j < 308) (e : (g_all j).1 = 11) : w_s j 0 = 24 := by
  have hk := w_ck1 h
  unfold w_ck at hk
  rw [e] at hk
  simpa only [Bool.and_eq_true, beq_iff_eq] using hk
theorem w_c25 {j : Nat} (h : j < 308) (e : (g_all j).1 = 25) {k : Nat} (hk' : k < 8) : w_s j k = 1 := by
  have hk := w_ck1 h
  unfold w_ck at hk
  rw [e] at hk
  exact beq_iff_eq.mp (List.all_eq_true.mp hk k (List.mem_range.mpr hk'))
theorem w_c26 {j : Nat} (h : j < 308) (e : (g_all j).1 = 26) {k : Nat} (hk' : k < 9) : w_s j k = 2 := by
  have hk := w_ck1 h
  unfold w_ck at hk
  rw [e] at hk
  exact beq_iff_eq.mp (List.all_eq_true.mp hk k (List.mem_range.mpr hk'))
theorem w_c27 {j : Nat} (h : j < 308) (e : (g_all j).1 = 27) {k : Nat} (hk' : k < 12) : w_s j k = 5 := by
  have hk := w_ck1 h
  unfold w_ck at hk
  rw [e] at hk
  exact beq_iff_eq.mp (List.all_eq_true.mp hk k (List.mem_range.mpr hk'))
theorem w_in {x a t : Nat} (h : w_sh x a = t) (ht : t ≠ 0) : ∃ j, j < 308 ∧ a = x + j ∧ (g_all j).1 = t := by
  unfold w_sh at h
  by_cases hc : x ≤ a ∧ a < x + 308
  · rw [if_pos hc] at h
    exact ⟨a - x, by omega, by omega, h⟩
  · rw [if_neg hc] at h
    exact absurd h.symm ht
theorem w_T {Y : rc_Y} {x : Nat} (hx : Y.1 ≤ x) : rc_T Y (w_sh x) (w_rf x) := by
  intro a
  refine ⟨fun h => ?_, fun h => ?_, fun h => ?_, fun h => ?_, fun h => ?_, fun h => ?_, fun h => ?_, fun h => ?_, fun h => ?_, fun h => ?_, fun h => ?_, fun h => ?_, fun h => ?_, fun h => ?_, fun h => ?_⟩
  · obtain ⟨j, -, rfl, -⟩ := w_in rfl h
    omega
  · obtain ⟨j, hj, rfl, e⟩ := w_in h (by decide)
    have q := w_c2 hj e
    exact ⟨w_st q.1 (by decide), w_st q.2.1 (by decide), w_st q.2.2.1 (by decide), w_st q.2.2.2 (by decide)⟩
  · obtain ⟨j, hj, rfl, e⟩ := w_in h (by decide)
    exact w_st (w_c3 hj e) (by decide)
  · obtain ⟨j, hj, rfl, e⟩ := w_in h (by decide)
    have q := w_c4 hj e
    exact ⟨w_st q.1 (by decide), w_st q.2 (by decide)⟩
  · obtain ⟨j, hj, rfl, e⟩ := w_in h (by decide)
    have q := w_c7 hj e
    exact ⟨w_st q.1 (by decide), w_st q.2.1 (by decide), w_st q.2.2 (by decide)⟩
  · obtain ⟨j, hj, rfl, e⟩ := w_in h (by decide)
    have q := w_c8 hj e
    exact ⟨w_st q.1 (by decide), w_st q.2 (by decide)⟩
  · obtain ⟨j, hj, rfl, e⟩ := w_in h (by decide)
    have q := w_c9 hj e
    exact ⟨w_st q.1 (by decide), w_st q.2.1 (by decide), w_st q.2.2.1 (by decide), w_st q.2.2.2.1 (by decide), w_st q.2.2.2.2.1 (by decide), w_st q.2.2.2.2.2.1 (by decide), w_st q.2.2.2.2.2.2 (by decide)⟩
  · obtain ⟨j, hj, rfl, e⟩ := w_in h (by decide)
    exact w_st (w_c11 hj e) (by decide)
  · obtain ⟨j, hj, rfl, e⟩ := w_in h (by decide)
    have q := w_tag1 hj
    rw [e] at q
    exact absurd q (by decide)
  · obtain ⟨j, hj, rfl, e⟩ := w_in h (by decide)
    have q := w_tag1 hj
    rw [e] at q
    exact absurd q (by decide)
  · obtain ⟨j, hj, rfl, e⟩ := w_in h (by decide)
    have q := w_tag1 hj
    rw [e] at q
    exact absurd q (by decide)
  · obtain ⟨j, hj, rfl, e⟩ := w_in h (by decide)
    have q := w_tag1 hj
    rw [e] at q
    exact absurd q (by decide)
  · obtain ⟨j, hj, rfl, e⟩ := w_in h (by decide)
    exact fun k hk => w_st (w_c25 hj e hk) (by decide)
  · obtain ⟨j, hj, rfl, e⟩ := w_in h (by decide)
    exact fun k hk => w_st (w_c26 hj e hk) (by decide)
  · obtain ⟨j, hj, rfl, e⟩ := w_in h (by decide)
    exact fun k hk => w_st (w_c27 hj e hk) (by decide)
theorem w_arr {cI : ClassId} {N : Nat} {f g : Nat → Value} (h : ∀ j, j < N → f j = g j) : arrV cI N f = arrV cI N g := by
  unfold arrV
  congr 2
  funext j
  exact h j.val j.isLt
theorem w_atq {D : va_G} {a : Nat} {H : Heap} {cA : ClassId} {N : Nat} {q : Nat → Nat} (hq : ∀ j, j < N → q j ≠ 0) (h : va_at D vwCl (a, .inl (cA, N, .inr (.inr (.inr (.inr (fun j => rc_oo (q j))))))) H) : va_at D vwCl (a, .inl (cA, N, .inr (.inr (.inr (.inr (fun j => some (q j))))))) H := by
  have h : H[a]? = some (vp_cell cA (N, .inr (.inr (.inr (.inr (fun j => rc_oo (q j))))))) := h
  show H[a]? = some (vp_cell cA (N, .inr (.inr (.inr (.inr (fun j => some (q j)))))))
  rw [h, vp_cell_q, vp_cell_q]
  exact congrArg some (w_arr fun j hj => by rw [rc_oo_ne (hq j hj)])
theorem w_W {Y : rc_Y} {ω : rc_O} {x : Nat} {H : Heap} (hV : rc_V Y (rl_o ω x g_all) H) : rc_W Y (w_sh x) (w_rf x) (w_σ x) H := by
  intro a ha
  obtain ⟨j, hj, rfl, e⟩ := w_in rfl ha
  have h := hV (x + j) (by rw [rl_at]; rw [e]; exact ha)
  rw [rl_at] at h
  rw [w_sh_at hj, w_σ_at, w_rf_at]
  have h : va_at Y.2.1 vwCl (x + j, rc_Cv Y.2.2.1 (g_all j).1 (g_all j).2.2 (rl_q x (g_all j).2.1)) H := h
  have ht := w_tag1 hj
  clear ha e hV
  generalize et : (g_all j).1 = t at h ht ⊢
  simp only [w_tags, List.mem_cons, List.not_mem_nil, or_false] at ht
  rcases ht with rfl | rfl | rfl | rfl | rfl | rfl | rfl | rfl | rfl | rfl | rfl | rfl | rfl | rfl | rfl | rfl | rfl | rfl
  · exact h
  · have q := w_c2 hj et
    simp only [rc_Cv, rc_on_ne (w_nz (x := x) q.1 (by decide)), rc_on_ne (w_nz (x := x) q.2.1 (by decide)), rc_on_ne (w_nz (x := x) q.2.2.1 (by decide)), rc_on_ne (w_nz (x := x) q.2.2.2 (by decide))] at h
    exact h
  · have q := w_c3 hj et
    simp only [rc_Cv, rc_on_ne (w_nz (x := x) q (by decide))] at h
    exact h
  · have q := w_c4 hj et
    simp only [rc_Cv, rc_on_ne (w_nz (x := x) q.1 (by decide)), rc_on_ne (w_nz (x := x) q.2 (by decide))] at h
    exact h
  · exact h
  · exact h
  · have q := w_c7 hj et
    simp only [rc_Cv, rc_on_ne (w_nz (x := x) q.1 (by decide)), rc_on_ne (w_nz (x := x) q.2.1 (by decide)), rc_on_ne (w_nz (x := x) q.2.2 (by decide))] at h
    exact h
  · have q := w_c8 hj et
    simp only [rc_Cv, rc_on_ne (w_nz (x := x) q.1 (by decide)), rc_on_ne (w_nz (x := x) q.2 (by decide))] at h
    exact h
  · have q := w_c9 hj et
    simp only [rc_Cv, rc_on_ne (w_nz (x := x) q.1 (by decide)), rc_on_ne (w_nz (x := x) q.2.1 (by decide)), rc_on_ne (w_nz (x := x) q.2.2.1 (by decide)), rc_on_ne (w_nz (x := x) q.2.2.2.1 (by decide)), rc_on_ne (w_nz (x := x) q.2.2.2.2.1 (by decide)), rc_on_ne (w_nz (x := x) q.2.2.2.2.2.1 (by decide)), rc_on_ne (w_nz (x := x) q.2.2.2.2.2.2 (by decide))] at h
    exact h
  · have q := w_c11 hj et
    simp only [rc_Cv, rc_on_ne (w_nz (x := x) q (by decide))] at h
    exact h
  · exact h
  · exact h
  · exact h
  · exact h
  · exact h
  · exact w_atq (fun k hk => w_nz (w_c25 hj et hk) (by decide)) h
  · exact w_atq (fun k hk => w_nz (w_c26 hj et hk) (by decide)) h
  · exact w_atq (fun k hk => w_nz (w_c27 hj et hk) (by decide)) h
def w_kk (c : Nat) : Bool := (g_all c).2.1 0 == c + 1 && ((g_all c).2.1 1 == c + 2 && ((g_all c).2.1 3 == c + 3 && ((g_all c).2.1 4 == c + 6 && ((g_all (c + 3)).2.1 0 == c + 4 && ((g_all (c + 3)).2.1 1 == c + 5 && ((List.range 8).all (fun b => (g_all (c + 2)).2.1 b == c + 7 + b) && (List.range 12).all (fun q => (g_all (c + 6)).2.1 q == c + 15 + q)))))))
theorem w_K {x c : Nat} (h : w_kk c = true) : pq_K (w_rf x) (x + c) := by
  unfold w_kk at h
  simp only [Bool.and_eq_true, beq_iff_eq] at h
  obtain ⟨h1, h2, h3, h4, h5, h6, h7, h8⟩ := h
  refine ⟨?_, ?_, ?_, ?_, ?_, ?_, fun b hb => ?_, fun q hq => ?_⟩
  · exact (w_rf_to c 0 h1 (by omega)).trans (by omega)
  · exact (w_rf_to c 1 h2 (by omega)).trans (by omega)
  · exact (w_rf_to c 3 h3 (by omega)).trans (by omega)
  · exact (w_rf_to c 4 h4 (by omega)).trans (by omega)
  · rw [Nat.add_assoc x c 3]
    exact (w_rf_to (c + 3) 0 h5 (by omega)).trans (by omega)
  · rw [Nat.add_assoc x c 3]
    exact (w_rf_to (c + 3) 1 h6 (by omega)).trans (by omega)
  · rw [Nat.add_assoc x c 2]
    exact (w_rf_to (c + 2) b (beq_iff_eq.mp (List.all_eq_true.mp h7 b (List.mem_range.mpr hb))) (by omega)).trans (by omega)
  · rw [Nat.add_assoc x c 6]
    exact (w_rf_to (c + 6) q (beq_iff_eq.mp (List.all_eq_true.mp h8 q (List.mem_range.mpr hq))) (by omega)).trans (by omega)
theorem w_k9 : (List.range 9).all (fun j => w_kk (59 + 27 * j) && (g_all 58).2.1 j == 59 + 27 * j) = true := by decide +kernel
theorem w_X {x : Nat} : pq_X (w_rf x) x := by
  refine ⟨⟨?_, ?_, ?_, ?_, ?_, ?_, ?_⟩, ⟨?_, ?_⟩, ⟨?_, fun j hj => ?_⟩, ⟨?_, ?_, ?_⟩, ?_, ?_, ?_, fun j hj => ?_⟩
  · exact w_rf_to 0 0 (by decide +kernel) (by decide)
  · exact w_rf_to 0 1 (by decide +kernel) (by decide)
  · exact w_rf_to 0 2 (by decide +kernel) (by decide)
  · exact w_rf_to 0 3 (by decide +kernel) (by decide)
  · exact w_rf_to 0 5 (by decide +kernel) (by decide)
  · exact w_rf_to 0 6 (by decide +kernel) (by decide)
  · exact w_rf_to 0 8 (by decide +kernel) (by decide)
  · exact w_rf_to 1 0 (by decide +kernel) (by decide)
  · exact w_rf_to 1 1 (by decide +kernel) (by decide)
  · exact w_rf_to 57 0 (by decide +kernel) (by decide)
  · have h := List.all_eq_true.mp w_k9 j (List.mem_range.mpr hj)
    simp only [Bool.and_eq_true, beq_iff_eq] at h
    exact (w_rf_to 58 j h.2 (by omega)).trans (by omega)
  · exact w_rf_to 302 0 (by decide +kernel) (by decide)
  · exact w_rf_to 302 2 (by decide +kernel) (by decide)
  · exact w_rf_to 302 3 (by decide +kernel) (by decide)
  · exact w_rf_to 306 0 (by decide +kernel) (by decide)
  · exact w_K (by decide +kernel)
  · exact w_K (by decide +kernel)
  · have h := List.all_eq_true.mp w_k9 j (List.mem_range.mpr hj)
    simp only [Bool.and_eq_true, beq_iff_eq] at h
    have h2 := w_K (x := x) h.1
    rw [← Nat.add_assoc] at h2
    exact h2
/-! what the new one holds -/
def w_g : Nat → Int32 := fun i => if 11 ≤ i ∧ i < 15 then 3 else 0
theorem w_c0 : w_g 0 = 0 ∧ w_g 1 = 0 ∧ w_g 2 = 0 ∧ w_g 3 = 0 ∧ w_g 4 = 0 ∧ w_g 5 = 0 ∧ w_g 6 = 0 ∧ w_g 7 = 0 ∧ w_g 8 = 0 ∧ w_g 9 = 0 ∧ w_g 10 = 0 := by decide
set_option maxRecDepth 20000 in
theorem w_R {x : Nat} : pq_R (w_σ x) (x + 2) w_g 0 0 := by
  refine ⟨⟨?_, ?_, ?_, ?_, ?_, ?_, ?_, ?_, ?_, ?_, ?_⟩, fun r h => ?_, fun b h => absurd h (Nat.not_lt_zero b), fun j h => absurd h (Nat.not_lt_zero j), fun q h => ?_⟩
  · exact w_n 2 2 (by decide +kernel)
  · exact w_n 5 2 (by decide +kernel)
  · exact w_n 2 6 (by decide +kernel)
  · exact w_n 2 7 (by decide +kernel)
  · exact w_n 2 5 (by decide +kernel)
  · exact w_n 2 8 (by decide +kernel)
  · exact w_n 2 9 (by decide +kernel)
  · exact w_n 2 10 (by decide +kernel)
  · exact w_n 2 11 (by decide +kernel)
  · exact w_n 2 12 (by decide +kernel)
  · exact w_n 2 13 (by decide +kernel)
  · have k : (List.range 4).all (fun r => (g_all 3).2.2 r == w_g (11 + r)) = true := by decide +kernel
    exact w_n 3 r (beq_iff_eq.mp (List.all_eq_true.mp k r (List.mem_range.mpr h)))
  · have k : (List.range 12).all (fun q => (g_all (17 + q)).2.2 0 == w_g (71 + 3 * q) && ((g_all (17 + q)).2.2 1 == w_g (72 + 3 * q) && (g_all (17 + q)).2.2 2 == w_g (73 + 3 * q))) = true := by decide +kernel
    have k2 := List.all_eq_true.mp k q (List.mem_range.mpr h)
    simp only [Bool.and_eq_true, beq_iff_eq] at k2
    rw [show x + 2 + 15 + q = x + (17 + q) by omega]
    exact ⟨w_n _ 0 k2.1, w_n _ 1 k2.2.1, w_n _ 2 k2.2.2⟩
theorem w_V : pq_V w_g 0 0 0 := by
  refine ⟨⟨rfl, by decide⟩, ⟨rfl, by decide⟩, by decide, by decide, by decide, fun r h => ?_, fun b h => absurd h (Nat.not_lt_zero b), fun j h => absurd h (Nat.not_lt_zero j)⟩
  have k : (List.range 4).all (fun r => decide (0 ≤ (w_g (11 + r)).toInt ∧ (w_g (11 + r)).toInt ≤ 9)) = true := by decide
  exact of_decide_eq_true (List.all_eq_true.mp k r (List.mem_range.mpr h))
theorem w_Ip : pI w_g 0 := ⟨fun b h => absurd h (Nat.not_lt_zero b), by decide, 0, by decide, rfl, fun k h => absurd h (Nat.not_lt_zero k)⟩
def w_G : Nat → pG := fun _ => (w_g, 0, 0)
set_option maxRecDepth 20000 in
theorem w_Kx {x : Nat} : pKx (w_σ x) x w_G 0 0 0 [] := by
  refine ⟨w_R, ⟨by decide, by decide, by decide, ?_, ?_, fun j h => absurd h (Nat.not_lt_zero j)⟩, ⟨?_, ?_, by decide, fun k v h => ?_⟩, ?_⟩
  · exact w_n 57 2 (by decide +kernel)
  · exact w_n 57 1 (by decide +kernel)
  · exact w_n 306 1 (by decide +kernel)
  · exact w_n 306 3 (by decide +kernel)
  · cases h
  · exact w_n 302 1 (by decide +kernel)
theorem w_VI : pVI w_G 0 0 := fun _ _ => ⟨w_V, w_Ip⟩
theorem w_sh9 {x : Nat} : w_sh x x = 9 := (w_sh_at (x := x) (j := 0) (by decide)).trans (by decide +kernel)
theorem w_sh0 {x a : Nat} (h : x + 308 ≤ a) : w_sh x a = 0 := by
  unfold w_sh
  rw [if_neg (by omega)]
