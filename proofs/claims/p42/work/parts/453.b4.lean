/-! THE LOOPS OF isWhole -/
section PB4
variable {rf : rc_F} {z : rc_Z} {σ : rc_S} {x : Nat} {g : Nat → Int32} {n p N b j : Nat}
theorem pb_jg {α β : Type} {f : α → rc_S → β} {k : (α → rc_S → β) → β} (w : α) (σ : rc_S) (h : ∀ J, k J = J w σ) : rc_jn f k = f w σ := h f
theorem pb_js {β : Type} {f : rc_S → β} {k : (rc_S → β) → β} (σ : rc_S) (h : ∀ J, k J = J σ) : rc_jn f k = f σ := h f
def pb_cp (g : Nat → Int32) (a b : Nat) : Int32 := if Int32.ofNat a = Int32.ofNat b ∨ g (16 + 6 * a) = 0 then (0 : Int32) else if g (16 + 6 * b) = 0 then 1 else if g (18 + 6 * b) = g (18 + 6 * a) ∧ ¬ 20 ≤ g (16 + 6 * b) then 1 else 0
theorem pb_cp01 {a : Nat} : pb_cp g a b = 0 ∨ pb_cp g a b = 1 := by
  unfold pb_cp
  repeat' split
  all_goals first | exact Or.inl rfl | exact Or.inr rfl
theorem pb_l0 (hV : pq_V g n p N) (hb : b < n) : (g (16 + 6 * b) ≤ 0) ↔ g (16 + 6 * b) = 0 := by
  have va := pq_vh hV hb
  have wa := pq_i0 (Int.le_trans va.1 va.2.1)
  constructor <;> intro q <;> grind
theorem pb_nle {i : Nat} (h : i < n) (hn : n < 1000) : ¬ Int32.ofNat n ≤ Int32.ofNat i := fun q => by have := (pq_le (by omega) (by omega)).mp q; omega
theorem pb_41 (hX : pq_X rf x) (hV : pq_V g n p N) {a : Nat} (ha : a < n) (v1 v3 v4 v5 v6 : Int32) (K : Int32 → rc_S → Option (Int32 × rc_S)) : ∀ (d fu i : Nat) (σ : rc_S), i + d = n → pq_R σ (x + 2) g n p → f_L_isWhole_41 rf z x v1 (Int32.ofNat n) v3 v4 v5 v6 (Int32.ofNat a) K (fu + d + 1) (Int32.ofNat i) σ = K (Int32.ofNat n) σ := by
  have h8 := pq_vn hV
  intro d
  induction d with
  | zero =>
    intro fu i σ h hR
    have hi : i = n := by omega
    subst hi
    rw [f_L_isWhole_41, if_pos (Int32.le_refl _)]
  | succ d ih =>
    intro fu i σ h hR
    have hi : i < n := by omega
    have hcan : f_L_canPour rf z x (Int32.ofNat a) (Int32.ofNat i) σ = some (pb_cp g a i, σ) := ql_can hX hR hV ha hi
    rw [show fu + (d + 1) + 1 = (fu + d + 1) + 1 from rfl, f_L_isWhole_41, if_neg (pb_nle hi (by omega))]
    refine (pb_jg (pb_cp g a i) σ (fun J => ?_)).trans ?_
    · by_cases c1 : Int32.ofNat a = Int32.ofNat i
      · rw [if_pos c1, pb_cp, if_pos (Or.inl c1)]
      · rw [if_neg c1, ql_bar1 hX hR hV ha, pq_bd]
        by_cases c2 : g (16 + 6 * a) = 0
        · rw [if_pos ((pb_l0 hV ha).mpr c2), pb_cp, if_pos (Or.inr c2)]
        · have c12 : ¬ (Int32.ofNat a = Int32.ofNat i ∨ g (16 + 6 * a) = 0) := fun q => q.elim c1 c2
          rw [if_neg (fun q => c2 ((pb_l0 hV ha).mp q)), ql_bar1 hX hR hV hi, pq_bd, pb_cp, if_neg c12]
          by_cases c3 : (20 : Int32) ≤ g (16 + 6 * i)
          · have c4 : g (16 + 6 * i) ≠ 0 := fun q => by rw [q] at c3; exact absurd c3 (by decide)
            rw [if_pos c3, if_neg c4, if_neg (fun q => q.2 c3)]
          · rw [if_neg c3, ql_bar1 hX hR hV hi, pq_bd]
            by_cases c4 : g (16 + 6 * i) = 0
            · rw [if_pos c4, if_pos c4]
            · rw [if_neg c4, if_neg c4, ql_bar3 hX hR hV ha, pq_bd, ql_bar3 hX hR hV hi, pq_bd]
              by_cases c5 : g (18 + 6 * a) = g (18 + 6 * i)
              · rw [if_pos c5, if_pos ⟨c5.symm, c3⟩]
              · rw [if_neg c5, if_neg (fun q => c5 q.1.symm)]
    · show rc_bd (f_L_canPour rf z x (Int32.ofNat a) (Int32.ofNat i) σ) _ = _
      rw [hcan, pq_bd]
      refine (pb_jg (pb_cp g a i) σ (fun J => ?_)).trans ?_
      · rcases pb_cp01 (g := g) (a := a) (b := i) with q | q
        · rw [if_pos q, q]
        · rw [if_neg (by rw [q]; decide), q]
      · show (if pb_cp g a i = pb_cp g a i then _ else _) = _
        rw [if_pos rfl, rc_lt, pq_s]
        exact ih fu (i + 1) σ (by omega) hR
theorem pb_note (hX : pq_X rf x) (hR : pq_R σ (x + 2) g n p) (hV : pq_V g n p N) (hN : N ≤ 900) (hb : b < n) : ∃ w, f_L_note rf z x (Int32.ofNat b) σ = some (w, σ) ∧ (if (0 : Int32) < w then w else 0) = pq_N g b 0 := by
  by_cases h2 : g (16 + 6 * b) = 0
  · exact ⟨-75, ql_noteE hX hR hV hb h2, by rw [pq_N, pq_nt, if_pos h2]; decide⟩
  · obtain ⟨v, hv, ev⟩ := pq_N9 hV (by omega) hb
    refine ⟨pq_N g b 0, ql_note hX hR hV hb h2, ?_⟩
    rw [ev]
    by_cases h0 : v = 0
    · subst h0; decide
    · rw [if_pos (show (0 : Int32) < Int32.ofNat v from (pq_lt (n := 0) (by decide) (by omega)).mpr (by omega))]
theorem pb_20 (hX : pq_X rf x) (hV : pq_V g n p N) (hN : N ≤ 900) (hI : pI g n) {y : Nat} (hy : y ≤ 20) : ∀ (d fu i : Nat) (σ : rc_S) (L : List Nat) (a h c e : Int32), i + d = n → pq_R σ (x + 2) g n p → pq_OC σ x L → ∃ σ' L', (∀ K : Int32 → Int32 → Int32 → Int32 → Int32 → rc_S → Option (Int32 × rc_S), f_L_isWhole_20 rf z x (Int32.ofNat y) (Int32.ofNat n) K (fu + d + 1) a h c e (Int32.ofNat i) σ = K (pq_fd (fun b a => a + g (16 + 6 * b)) i d a) (pq_fd (fun b a => a + g (17 + 6 * b)) i d h) (pq_fd (fun b a => a + pq_N g b 0) i d c) (pq_fd (fun b a => if g (16 + 6 * b) = 0 then a else a + 1) i d e) (Int32.ofNat n) σ') ∧ pF x σ σ' ∧ pq_OC σ' x L' := by
  have h8 := pq_vn hV
  intro d
  induction d with
  | zero =>
    intro fu i σ L a h c e hi hR hO
    have hi : i = n := by omega
    subst hi
    refine ⟨σ, L, fun K => ?_, pF_r, hO⟩
    rw [f_L_isWhole_20, if_pos (Int32.le_refl _)]
    rfl
  | succ d ih =>
    intro fu i σ L a h c e hid hR hO
    have hi : i < n := by omega
    obtain ⟨σ1, L1, e1, f1, o1⟩ := pb_bar (z := z) hX hR hV hN hI hO hi hy
    have R1 := pF_R f1 hR hV
    have k41 := fun v1 v3 v4 v5 v6 K => pb_41 (z := z) hX hV hi v1 v3 v4 v5 v6 K n (8 - n) 0 σ1 (by omega) R1
    rw [show 8 - n + n + 1 = 9 by omega, show Int32.ofNat 0 = (0 : Int32) from rfl] at k41
    obtain ⟨w, hw, ew⟩ := pb_note (z := z) hX R1 hV hN hi
    obtain ⟨σ2, L2, e2, f2, o2⟩ := ih fu (i + 1) σ1 L1 (a + g (16 + 6 * i)) (h + g (17 + 6 * i)) (c + pq_N g i 0) (if g (16 + 6 * i) = 0 then e else e + 1) (by omega) R1 o1
    refine ⟨σ2, L2, fun K => ?_, pF_t f1 f2, o2⟩
    rw [show fu + (d + 1) + 1 = (fu + d + 1) + 1 from rfl, f_L_isWhole_20, if_neg (pb_nle hi (by omega)), e1, pq_bd, if_neg (by decide)]
    refine (k41 _ _ _ _ _ _).trans ?_
    show rc_bd (f_L_barrelOf rf z x (Int32.ofNat i) 1 σ1) _ = _
    rw [ql_bar1 hX R1 hV hi, pq_bd, rc_lt, ql_bar2 hX R1 hV hi, pq_bd, rc_lt, hw, pq_bd, rc_lt, ew, ql_bar1 hX R1 hV hi, pq_bd]
    refine (pb_jg (if g (16 + 6 * i) = 0 then (0 : Int32) else 1) σ1 (fun J => ?_)).trans ?_
    · by_cases q : g (16 + 6 * i) = 0
      · rw [if_pos ((pb_l0 hV hi).mpr q), if_pos q]
      · rw [if_neg (fun r => q ((pb_l0 hV hi).mp r)), if_neg q]
    · show rc_lt (e + (if g (16 + 6 * i) = 0 then (0 : Int32) else 1)) _ = _
      have ee : e + (if g (16 + 6 * i) = 0 then (0 : Int32) else 1) = if g (16 + 6 * i) = 0 then e else e + 1 := by
        by_cases q : g (16 + 6 * i) = 0
        · rw [if_pos q, if_pos q, Int32.add_zero]
        · rw [if_neg q, if_neg q]
      rw [ee, rc_lt, rc_lt, pq_s]
      exact e2 K
def pb_cn (g : Nat → Int32) (n r : Nat) : Int32 := pq_fd (fun b a => if g (15 + 6 * b) = Int32.ofNat r then a + 1 else a) 0 n 0
def pb_li (g : Nat → Int32) (n r : Nat) : Int32 := pq_fd (fun b a => if g (15 + 6 * b) = Int32.ofNat r then a + g (16 + 6 * b) else a) 0 n 0
def pb_vi (g : Nat → Int32) (n k : Nat) : Int32 := pq_fd (fun b a => if g (18 + 6 * b) = Int32.ofNat k then a + g (16 + 6 * b) else a) 0 n 0
theorem pb_ec {r : Nat} (h8 : n ≤ 8) : pq_fd (fun b a => if g (15 + 6 * b) = Int32.ofNat r ∧ g (16 + 6 * b) = 0 then a + 1 else a) 0 n 0 ≤ pq_fd (fun b a => if g (15 + 6 * b) = Int32.ofNat r then a + 1 else a) 0 n 0 := by
  rw [show (0 : Int32) = Int32.ofNat 0 from rfl, nc_fd, nc_fd]
  have h1 := nc_le (f := fun b => decide (g (15 + 6 * b) = Int32.ofNat r ∧ g (16 + 6 * b) = Int32.ofNat 0)) (h := fun b => decide (g (15 + 6 * b) = Int32.ofNat r)) n 0 (fun b _ _ q => decide_eq_true (of_decide_eq_true q).1)
  have h2 := nc_d (f := fun b => decide (g (15 + 6 * b) = Int32.ofNat r)) n 0
  exact (pq_le (by omega) (by omega)).mpr (by omega)
theorem pb_ge0 {u : Int32} (h : 0 ≤ u.toInt) : ¬ u < 0 := fun q => by rw [Int32.lt_iff_toInt_lt, Int32.toInt_zero] at q; omega
theorem pb_le9 {u : Int32} (h : u.toInt ≤ 9) : ¬ 9 < u := fun q => by rw [Int32.lt_iff_toInt_lt, show (9 : Int32).toInt = 9 from rfl] at q; omega
theorem pb_211 (hX : pq_X rf x) (hR : pq_R σ (x + 2) g n p) (hV : pq_V g n p N) (v2 v3 v4 v5 v6 : Int32) (K : Int32 → Int32 → Int32 → rc_S → Option (Int32 × rc_S)) : ∀ (d fu i : Nat) (u w : Int32), i + d = 4 → f_L_isWhole_211 rf z x v2 v3 v4 v5 v6 K (fu + d + 1) u w (Int32.ofNat i) σ = K (pq_fd (fun r a => a + pb_cn g n r) i d u) (pq_fd (fun r a => a + pb_li g n r) i d w) (Int32.ofNat 4) σ := by
  have h8 := pq_vn hV
  intro d
  induction d with
  | zero =>
    intro fu i u w h
    have hi : i = 4 := by omega
    subst hi
    rw [f_L_isWhole_211, if_pos (show (4 : Int32) ≤ Int32.ofNat 4 from Int32.le_refl _)]
    rfl
  | succ d ih =>
    intro fu i u w h
    have hi : i < 4 := by omega
    have vm := pq_vm hV hi
    rw [show fu + (d + 1) + 1 = (fu + d + 1) + 1 from rfl, f_L_isWhole_211, if_neg (show ¬ (4 : Int32) ≤ Int32.ofNat i from pb_nle (n := 4) hi (by decide)), ql_roof0 hX hR hV hi, pq_bd, if_neg (pb_ge0 vm.1), ql_roof0 hX hR hV hi, pq_bd, if_neg (pb_le9 vm.2), ql_roof2 hX hR hV hi, pq_bd, ql_roof1 hX hR hV hi, pq_bd, if_pos (pb_ec h8), ql_roof1 hX hR hV hi, pq_bd, rc_lt, ql_roof3 hX hR hV hi, pq_bd, rc_lt, rc_lt, pq_s]
    exact ih fu (i + 1) (u + pb_cn g n i) (w + pb_li g n i) (by omega)
theorem pb_12 : ∀ T, T < 101 → ∀ i, i < 101 → ((Int32.ofNat i < Int32.ofNat T - 12) ↔ i + 12 < T) := by decide +kernel
theorem pb_t1 {T : Nat} (h : 0 < T) : Int32.ofNat T - 1 = Int32.ofNat (T - 1) := q9_k1 h
theorem pb_294 (hX : pq_X rf x) (hR : pq_R σ (x + 2) g n p) (hV : pq_V g n p N) (hI : pI g n) {T : Nat} (hT : g 4 = Int32.ofNat T) (hT1 : T ≤ 100) (v2 v3 v4 v5 v6 v7 v8 : Int32) (K : Int32 → Int32 → rc_S → Option (Int32 × rc_S)) : ∀ (d fu i : Nat) (u : Int32), i + d = T → f_L_isWhole_294 rf z x v2 v3 v4 v5 v6 v7 v8 K (fu + d + 1) u (Int32.ofNat i) σ = K (pq_fd (fun k a => a + pb_vi g n k) i d u) (Int32.ofNat T) σ := by
  intro d
  induction d with
  | zero =>
    intro fu i u h
    have hi : i = T := by omega
    subst hi
    rw [f_L_isWhole_294, ql_acc5 hX hR hV, pq_bd, hT, if_pos (Int32.le_refl _)]
    rfl
  | succ d ih =>
    intro fu i u h
    have hi : i < T := by omega
    have n1 : ¬ Int32.ofNat i < 0 := pb_n0 (by omega)
    have n2 : ¬ g 4 ≤ Int32.ofNat i := by rw [hT]; exact pb_nle hi (by omega)
    have hv : ¬ Int32.ofNat i < 0 ∧ ¬ g 4 - 1 < Int32.ofNat i := ⟨n1, by rw [hT, pb_t1 (by omega)]; exact fun q => by have := (pq_lt (by omega) (by omega)).mp q; omega⟩
    rw [show fu + (d + 1) + 1 = (fu + d + 1) + 1 from rfl, f_L_isWhole_294, ql_acc5 hX hR hV, pq_bd, if_neg n2, ql_acc5 hX hR hV, pq_bd, hT]
    refine (pb_jg (if i + 12 < T then (0 : Int32) else 1) σ (fun J => ?_)).trans ?_
    · by_cases q : i + 12 < T
      · rw [if_pos ((pb_12 T (by omega) i (by omega)).mpr q), if_pos q]
      · rw [if_neg (fun r => q ((pb_12 T (by omega) i (by omega)).mp r)), if_neg q]
    · refine (pb_js σ (fun J => ?_)).trans ?_
      · by_cases q : i + 12 < T
        · have n3 : Int32.ofNat i < g 4 - 12 := by rw [hT]; exact (pb_12 T (by omega) i (by omega)).mpr q
          rw [if_pos q, if_pos rfl, ql_stoO hX hR hV n1 n2 n3, pq_bd, if_pos rfl]
        · have n3 : ¬ Int32.ofNat i < g 4 - 12 := by rw [hT]; exact fun r => q ((pb_12 T (by omega) i (by omega)).mp r)
          obtain ⟨T', hT9', hT', hs⟩ := hI.2.2
          have eT : T' = T := by
            have := hT'.symm.trans hT
            exact (pq_eq (by omega) (by omega)).mp this
          subst eT
          obtain ⟨s, y, l, s1, s9, y9, l9, e1, e2, e3, e4⟩ := hs i hi (by omega)
          have hi2 : i < 2147483648 := by omega
          have ls : Int32.ofNat l ≤ (10 : Int32) * Int32.ofNat s := by
            rw [show (10 : Int32) * Int32.ofNat s = Int32.ofNat (10 * s) from by rw [Int32.ofNat_mul]; rfl]
            exact (pq_le (by omega) (by omega)).mpr l9
          rw [if_neg q, if_neg (by decide), ql_sto0 hX hR hV hi2 n1 n2 n3, pq_bd, e1, if_neg (show ¬ Int32.ofNat s < (1 : Int32) from fun r => by have := (pq_lt (m := 1) (by omega) (by decide)).mp r; omega), ql_sto1 hX hR hV hi2 n1 n2 n3, pq_bd, e2, ql_acc4 hX hR hV, pq_bd, if_neg (Int32.not_lt.mpr e4), ql_sto2 hX hR hV hi2 n1 n2 n3, pq_bd, e3, ql_sto0 hX hR hV hi2 n1 n2 n3, pq_bd, e1, if_pos ls]
      · show rc_bd (f_L_vintage rf z x (Int32.ofNat i) σ) _ = _
        rw [ql_vin hX hR hV hv, pq_bd, rc_lt, rc_lt, pq_s]
        exact ih fu (i + 1) (u + pb_vi g n i) (by omega)
end PB4
