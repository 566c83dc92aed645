/-! THE SUM -/
section PB6
variable {rf : rc_F} {z : rc_Z} {σ : rc_S} {x : Nat} {g : Nat → Int32} {n p N b j : Nat}
def sm (f : Nat → Int32) : Nat → Nat → Int64 → Int64
  | _, 0, v => v
  | i, d + 1, v => sm f (i + 1) d ((31 : Int64) * v + (f i).toInt64)
def pb_ac (g : Nat → Int32) (n : Nat) : Nat → Int32
  | 0 => g 0
  | 1 => pb_fl g n
  | 2 => g 2
  | 3 => g 1
  | 4 => g 3
  | 5 => g 4
  | 6 => g 7
  | 7 => g 8
  | 8 => g 9
  | _ => g 10
def pb_bf (g : Nat → Int32) (b : Nat) : Nat → Int32
  | 0 => g (15 + 6 * b)
  | 1 => g (16 + 6 * b)
  | 2 => g (17 + 6 * b)
  | 3 => g (18 + 6 * b)
  | 4 => g (19 + 6 * b)
  | 5 => pq_A g b
  | _ => pq_P g b
def smB (g : Nat → Int32) : Nat → Nat → Int64 → Int64
  | _, 0, v => v
  | i, d + 1, v => smB g (i + 1) d (sm (pb_bf g i) 0 7 v)
/-- the law's sum of a row -/
def pb_sm (g : Nat → Int32) (n p : Nat) : Int64 :=
  sm (fun k => Int32.ofNat ((pb_pt g p).getD k 0)) 0 (pb_pt g p).length ((31 : Int64) * smB g 0 n (sm (fun r => g (11 + r)) 0 4 (sm (pb_ac g n) 0 10 0)) + (Int32.ofNat (pb_pt g p).length).toInt64)
theorem pb_acE (hX : pq_X rf x) (hR : pq_R σ (x + 2) g n p) (hV : pq_V g n p N) {i : Nat} (hi : i < 10) : f_L_account rf z x (Int32.ofNat i) σ = some (pb_ac g n i, σ) := by
  match i, hi with
  | 0, _ => have h := ql_acc0 (z := z) hX hR hV; exact h
  | 1, _ => have h := ql_acc1 (z := z) hX hR hV; exact h
  | 2, _ => have h := ql_acc2 (z := z) hX hR hV; exact h
  | 3, _ => have h := ql_acc3 (z := z) hX hR hV; exact h
  | 4, _ => have h := ql_acc4 (z := z) hX hR hV; exact h
  | 5, _ => have h := ql_acc5 (z := z) hX hR hV; exact h
  | 6, _ => have h := ql_acc6 (z := z) hX hR hV; exact h
  | 7, _ => have h := ql_acc7 (z := z) hX hR hV; exact h
  | 8, _ => have h := ql_acc8 (z := z) hX hR hV; exact h
  | 9, _ => have h := ql_acc9 (z := z) hX hR hV; exact h
theorem pb_bfE (hX : pq_X rf x) (hR : pq_R σ (x + 2) g n p) (hV : pq_V g n p N) (hb : b < n) {i : Nat} (hi : i < 7) : f_L_barrelOf rf z x (Int32.ofNat b) (Int32.ofNat i) σ = some (pb_bf g b i, σ) := by
  match i, hi with
  | 0, _ => have h := ql_bar0 (z := z) hX hR hV hb; exact h
  | 1, _ => have h := ql_bar1 (z := z) hX hR hV hb; exact h
  | 2, _ => have h := ql_bar2 (z := z) hX hR hV hb; exact h
  | 3, _ => have h := ql_bar3 (z := z) hX hR hV hb; exact h
  | 4, _ => have h := ql_bar4 (z := z) hX hR hV hb; exact h
  | 5, _ => have h := ql_bar5 (z := z) hX hR hV hb; exact h
  | 6, _ => have h := ql_bar6 (z := z) hX hR hV hb; exact h
theorem pb_s4 (hX : pq_X rf x) (hR : pq_R σ (x + 2) g n p) (hV : pq_V g n p N) (K : Int64 → Int32 → rc_S → Option (Int64 × rc_S)) : ∀ (d fu i : Nat) (v : Int64), i + d = 10 → f_L_sum_4 rf z x K (fu + d + 1) v (Int32.ofNat i) σ = K (sm (pb_ac g n) i d v) (Int32.ofNat 10) σ := by
  intro d
  induction d with
  | zero =>
    intro fu i v h
    have hi : i = 10 := by omega
    subst hi
    rw [f_L_sum_4, if_pos (show (10 : Int32) ≤ Int32.ofNat 10 from Int32.le_refl _)]
    rfl
  | succ d ih =>
    intro fu i v h
    have hi : i < 10 := by omega
    rw [show fu + (d + 1) + 1 = (fu + d + 1) + 1 from rfl, f_L_sum_4, if_neg (show ¬ (10 : Int32) ≤ Int32.ofNat i from pb_nle (n := 10) hi (by decide)), pb_acE hX hR hV hi, pq_bd, rc_lt, rc_lt, pq_s]
    exact ih fu (i + 1) _ (by omega)
theorem pb_s31 (hX : pq_X rf x) (hR : pq_R σ (x + 2) g n p) (hV : pq_V g n p N) (K : Int64 → Int32 → rc_S → Option (Int64 × rc_S)) : ∀ (d fu i : Nat) (v : Int64), i + d = 4 → f_L_sum_31 rf z x K (fu + d + 1) v (Int32.ofNat i) σ = K (sm (fun r => g (11 + r)) i d v) (Int32.ofNat 4) σ := by
  intro d
  induction d with
  | zero =>
    intro fu i v h
    have hi : i = 4 := by omega
    subst hi
    rw [f_L_sum_31, if_pos (show (4 : Int32) ≤ Int32.ofNat 4 from Int32.le_refl _)]
    rfl
  | succ d ih =>
    intro fu i v h
    have hi : i < 4 := by omega
    rw [show fu + (d + 1) + 1 = (fu + d + 1) + 1 from rfl, f_L_sum_31, if_neg (show ¬ (4 : Int32) ≤ Int32.ofNat i from pb_nle (n := 4) hi (by decide)), ql_roof0 hX hR hV hi, pq_bd, rc_lt, rc_lt, pq_s]
    exact ih fu (i + 1) _ (by omega)
theorem pb_s70 (hX : pq_X rf x) (hR : pq_R σ (x + 2) g n p) (hV : pq_V g n p N) (hb : b < n) (K : Int64 → Int32 → rc_S → Option (Int64 × rc_S)) : ∀ (d fu i : Nat) (v : Int64), i + d = 7 → f_L_sum_70 rf z x (Int32.ofNat b) K (fu + d + 1) v (Int32.ofNat i) σ = K (sm (pb_bf g b) i d v) (Int32.ofNat 7) σ := by
  intro d
  induction d with
  | zero =>
    intro fu i v h
    have hi : i = 7 := by omega
    subst hi
    rw [f_L_sum_70, if_pos (show (7 : Int32) ≤ Int32.ofNat 7 from Int32.le_refl _)]
    rfl
  | succ d ih =>
    intro fu i v h
    have hi : i < 7 := by omega
    rw [show fu + (d + 1) + 1 = (fu + d + 1) + 1 from rfl, f_L_sum_70, if_neg (show ¬ (7 : Int32) ≤ Int32.ofNat i from pb_nle (n := 7) hi (by decide)), pb_bfE hX hR hV hb hi, pq_bd, rc_lt, rc_lt, pq_s]
    exact ih fu (i + 1) _ (by omega)
theorem pb_s58 (hX : pq_X rf x) (hR : pq_R σ (x + 2) g n p) (hV : pq_V g n p N) (K : Int64 → Int32 → rc_S → Option (Int64 × rc_S)) : ∀ (d fu i : Nat) (v : Int64), i + d = n → f_L_sum_58 rf z x K (fu + d + 1) v (Int32.ofNat i) σ = K (smB g i d v) (Int32.ofNat n) σ := by
  have h8 := pq_vn hV
  intro d
  induction d with
  | zero =>
    intro fu i v h
    have hi : i = n := by omega
    subst hi
    rw [f_L_sum_58, ql_acc0 hX hR hV, pq_bd, pq_v0 hV, if_pos (Int32.le_refl _)]
    rfl
  | succ d ih =>
    intro fu i v h
    have hi : i < n := by omega
    have k70 := fun K => pb_s70 (z := z) hX hR hV hi K 7 0 0 v (by omega)
    rw [show 0 + 7 + 1 = 8 by omega, show Int32.ofNat 0 = (0 : Int32) from rfl] at k70
    rw [show fu + (d + 1) + 1 = (fu + d + 1) + 1 from rfl, f_L_sum_58, ql_acc0 hX hR hV, pq_bd, pq_v0 hV, if_neg (pb_nle hi (by omega))]
    refine (k70 _).trans ?_
    rw [rc_lt, pq_s]
    exact ih fu (i + 1) _ (by omega)
theorem pb_31 : ∀ p, p < 5 → ∀ i, i < 13 → (((3 : Int32) * Int32.ofNat p) - (1 : Int32) ≤ Int32.ofNat i ↔ 3 * p ≤ i + 1) := by decide +kernel
theorem pb_tkL (hV : pq_V g n p N) (hj : j < p) : (pq_tk g j).length = if j = 0 then 2 else 3 := by
  obtain ⟨tl, v, hv, e1, e2, e3⟩ := pq_tkl hV hj
  unfold pq_tk
  rw [e2]
  simp only [List.length_append, e3]
  by_cases h : j = 0
  · rw [if_pos h, if_pos h]; split <;> rfl
  · rw [if_neg h, if_neg h]; split <;> rfl
theorem pb_ptL (hV : pq_V g n p N) : (pb_pt g p).length = 3 * p - 1 := by
  have h4 := pq_vp hV
  have key : ∀ q, q ≤ p → ((List.range' 0 q).flatMap (pq_tk g)).length = 3 * q - 1 := by
    intro q
    induction q with
    | zero => intro _; rfl
    | succ q ih =>
      intro hq
      rw [List.range'_concat, List.flatMap_append, List.length_append, ih (by omega)]
      simp only [List.flatMap_cons, List.flatMap_nil, List.append_nil, Nat.zero_add, Nat.one_mul]
      rw [pb_tkL hV (show q < p by omega)]
      split <;> omega
  exact key p (Nat.le_refl p)
theorem pb_s118 (hX : pq_X rf x) (hR : pq_R σ (x + 2) g n p) (hV : pq_V g n p N) (hO : pq_OC σ x (pb_pt g p)) (K : Int64 → Int32 → rc_S → Option (Int64 × rc_S)) : ∀ (d fu i : Nat) (v : Int64), i + d = (pb_pt g p).length → f_L_sum_118 rf z x K (fu + d + 1) v (Int32.ofNat i) σ = K (sm (fun k => Int32.ofNat ((pb_pt g p).getD k 0)) i d v) (Int32.ofNat (pb_pt g p).length) σ := by
  have h4 := pq_vp hV
  have hl := pb_ptL hV
  intro d
  induction d with
  | zero =>
    intro fu i v h
    have hi : i = (pb_pt g p).length := by omega
    rw [f_L_sum_118, ql_acc3 hX hR hV, pq_bd, pq_v1 hV, if_pos ((pb_31 p (by omega) i (by omega)).mpr (by omega)), hi]
    rfl
  | succ d ih =>
    intro fu i v h
    have hi : i < (pb_pt g p).length := by omega
    obtain ⟨c, hc⟩ : ∃ c, (pb_pt g p)[i]? = some c := ⟨(pb_pt g p)[i], List.getElem?_eq_getElem hi⟩
    have hg : (pb_pt g p).getD i 0 = c := by rw [List.getD_eq_getElem?_getD, hc]; rfl
    rw [show fu + (d + 1) + 1 = (fu + d + 1) + 1 from rfl, f_L_sum_118, ql_acc3 hX hR hV, pq_bd, pq_v1 hV, if_neg (fun q => by have := (pb_31 p (by omega) i (by omega)).mp q; omega), ql_chr hX hO hc, pq_bd, rc_lt, rc_lt, pq_s, ← hg]
    exact ih fu (i + 1) _ (by omega)
/-- the sum, of any state of the row g -/
theorem pb_sum (hX : pq_X rf x) (hR : pq_R σ (x + 2) g n p) (hV : pq_V g n p N) {L : List Nat} (hO : pq_OC σ x L) : ∃ σ' L', f_L_sum rf z x σ = some (pb_sm g n p, σ') ∧ pF x σ σ' ∧ pq_OC σ' x L' := by
  have h8 := pq_vn hV
  have h4 := pq_vp hV
  have hl := pb_ptL hV
  obtain ⟨σ1, e1, f1, o1⟩ := qf_pan (g := g) hX hR hV hO
  have R1 := pF_R f1 hR hV
  have k4 := fun K => pb_s4 (z := z) hX hR hV K 10 0 0 0 (by omega)
  rw [show 0 + 10 + 1 = 11 by omega, show Int32.ofNat 0 = (0 : Int32) from rfl] at k4
  have k31 := fun K v => pb_s31 (z := z) hX hR hV K 4 0 0 v (by omega)
  rw [show 0 + 4 + 1 = 5 by omega, show Int32.ofNat 0 = (0 : Int32) from rfl] at k31
  have k58 := fun K v => pb_s58 (z := z) hX hR hV K n (8 - n) 0 v (by omega)
  rw [show 8 - n + n + 1 = 9 by omega, show Int32.ofNat 0 = (0 : Int32) from rfl] at k58
  have k118 := fun K v => pb_s118 (z := z) hX R1 hV o1 K (pb_pt g p).length (11 - (pb_pt g p).length) 0 v (by omega)
  rw [show 11 - (pb_pt g p).length + (pb_pt g p).length + 1 = 12 by omega, show Int32.ofNat 0 = (0 : Int32) from rfl] at k118
  refine ⟨σ1, _, ?_, f1, o1⟩
  rw [f_L_sum]
  refine (k4 _).trans ?_
  refine (k31 _ _).trans ?_
  refine (k58 _ _).trans ?_
  show rc_bd (f_X8_panel rf x σ) _ = _
  rw [e1, pq_bd, rc_lt]
  refine (k118 _ _).trans ?_
  rfl
end PB6
