/-! RANKS, AND isWhole -/
section PB5
variable {rf : rc_F} {z : rc_Z} {σ : rc_S} {x : Nat} {g : Nat → Int32} {n p N b j : Nat}
/-- a measure is a small number -/
theorem pb_msB (hV : pq_V g n p N) (hN : N ≤ 900) (hb : b < n) (me : Int32) : ∃ v, v ≤ 900 ∧ pq_ms g me b = Int32.ofNat v := by
  obtain ⟨Hh, Li, T, a1, a2, a3, q17, q16, q19⟩ := pq_bN hV hb
  unfold pq_ms
  by_cases c0 : me = 0
  · rw [if_pos c0]; exact ⟨Li, by omega, q16⟩
  · rw [if_neg c0]
    by_cases c1 : me = 1
    · rw [if_pos c1]
      obtain ⟨v, hv, e⟩ := pq_N9 hV (by omega) hb
      exact ⟨v, by omega, e⟩
    · rw [if_neg c1]
      by_cases c2 : me = 2
      · rw [if_pos c2]
        by_cases h2 : g (16 + 6 * b) = 0
        · exact ⟨0, by omega, by rw [pq_A, pq_age, if_pos h2]; rfl⟩
        · obtain ⟨A, hA, e⟩ := pq_aN hV hb (by omega)
          exact ⟨A, by omega, by rw [pq_A, pq_age, if_neg h2, e]⟩
      · rw [if_neg c2]
        obtain ⟨P, hP, e⟩ := pq_PN hV hb
        exact ⟨P, by omega, e⟩
/-- the place, as a natural number -/
def pb_pl (m : Nat → Nat) (n b : Nat) : Nat := nc (fun k => decide (m b < m k ∨ (m k = m b ∧ k < b))) 0 n
theorem pb_plE (hV : pq_V g n p N) (me : Int32) {m : Nat → Nat} (hm : ∀ b, b < n → m b ≤ 900 ∧ pq_ms g me b = Int32.ofNat (m b)) (hb : b < n) : pq_pl g n me b = Int32.ofNat (pb_pl m n b) := by
  have h8 := pq_vn hV
  unfold pq_pl pb_pl
  rw [show (0 : Int32) = Int32.ofNat 0 from rfl, nc_fd, Nat.zero_add]
  congr 1
  refine nc_c n 0 (fun k _ hk => ?_)
  have m1 := hm b hb
  have m2 := hm k (by omega)
  rw [decide_eq_decide, m1.2, m2.2, pq_lt (by omega) (by omega), pq_eq (by omega) (by omega), pq_lt (by omega) (by omega)]
theorem pb_plM {m : Nat → Nat} {a : Nat} (ha : a < n) (hb : b < n) (h : m a < m b ∨ (m b = m a ∧ b < a)) : pb_pl m n b < pb_pl m n a :=
  nc_lt (c := b) (decide_eq_false (by omega)) (decide_eq_true h) n 0 (Nat.zero_le b) (by omega) (fun k _ _ q => by
    have q := of_decide_eq_true q
    exact decide_eq_true (by omega))
theorem pb_pln {m : Nat → Nat} (hb : b < n) : pb_pl m n b < n := nc_n (c := b) (decide_eq_false (by omega)) n 0 (Nat.zero_le b) (by omega)
theorem pb_plI {m : Nat → Nat} {a : Nat} (ha : a < n) (hb : b < n) (h : pb_pl m n a = pb_pl m n b) : a = b := by
  by_cases e : a = b
  · exact e
  · have h1 := pb_plM (m := m) (n := n) (a := a) (b := b) ha hb
    have h2 := pb_plM (m := m) (n := n) (a := b) (b := a) hb ha
    omega
theorem pb_m03 {i : Nat} (hi : i < 4) : ¬ Int32.ofNat i < 0 ∧ ¬ 3 < Int32.ofNat i := pb_4 hi
theorem pb_rank (hX : pq_X rf x) (hR : pq_R σ (x + 2) g n p) (hV : pq_V g n p N) (hN : N ≤ 900) {i : Nat} (hi : i < 4) {m : Nat → Nat} (hm : ∀ b, b < n → m b ≤ 900 ∧ pq_ms g (Int32.ofNat i) b = Int32.ofNat (m b)) {k : Nat} (hk : k < n) : ∃ b, b < n ∧ pb_pl m n b = k ∧ f_L_ranked rf z x (Int32.ofNat i) (Int32.ofNat k) σ = some (Int32.ofNat b, σ) := by
  have h8 := pq_vn hV
  have e := ql_rank (z := z) hX hR hV (k := k) (pb_m03 hi)
  obtain ⟨c, hc, ec⟩ := pb_php n (pb_pl m n) (fun b hb => pb_pln hb) (fun a b ha hb h => pb_plI ha hb h) k hk
  cases hf : (List.range' 0 n).find? (fun b => decide (pq_pl g n (Int32.ofNat i) b = Int32.ofNat k)) with
  | none =>
    exfalso
    have q := List.find?_eq_none.mp hf c (List.mem_range'_1.mpr ⟨Nat.zero_le c, by omega⟩)
    exact q (decide_eq_true (by rw [pb_plE hV _ hm hc, ec]))
  | some b =>
    rw [hf] at e
    have hb : b < n := by have := List.mem_range'_1.mp (List.mem_of_find?_eq_some hf); omega
    have q := List.find?_some hf
    have q := of_decide_eq_true q
    rw [pb_plE hV _ hm hb] at q
    have l1 := pb_pln (m := m) hb
    exact ⟨b, hb, (pq_eq (by omega) (by omega)).mp q, e⟩
theorem pb_rankO (hX : pq_X rf x) (hR : pq_R σ (x + 2) g n p) (hV : pq_V g n p N) (hN : N ≤ 900) : f_L_ranked rf z x (2 : Int32) (Int32.ofNat n) σ = some (-75, σ) := by
  have h8 := pq_vn hV
  have e := ql_rank (z := z) hX hR hV (u := 2) (k := n) (by decide)
  obtain ⟨m, hm⟩ : ∃ m : Nat → Nat, ∀ b, b < n → m b ≤ 900 ∧ pq_ms g 2 b = Int32.ofNat (m b) :=
    ⟨fun b => (pq_ms g 2 b).toNatClampNeg, fun b hb => by
      obtain ⟨v, hv, ev⟩ := pb_msB hV hN hb 2
      show (pq_ms g 2 b).toNatClampNeg ≤ 900 ∧ pq_ms g 2 b = Int32.ofNat (pq_ms g 2 b).toNatClampNeg
      rw [ev, pq_cl (by omega)]; exact ⟨hv, rfl⟩⟩
  have hf : (List.range' 0 n).find? (fun b => decide (pq_pl g n 2 b = Int32.ofNat n)) = none := List.find?_eq_none.mpr (fun b hb q => by
    have hb : b < n := by have := List.mem_range'_1.mp hb; omega
    have q := of_decide_eq_true q
    rw [pb_plE hV _ hm hb] at q
    have l1 := pb_pln (m := m) hb
    have := (pq_eq (by omega) (by omega)).mp q
    omega)
  rw [hf] at e
  exact e
theorem pb_meas (hX : pq_X rf x) (hR : pq_R σ (x + 2) g n p) (hV : pq_V g n p N) (hN : N ≤ 900) {i : Nat} (hi : i < 4) (hb : b < n) : f_L_measure rf z x (Int32.ofNat i) (Int32.ofNat b) σ = some (pq_ms g (Int32.ofNat i) b, σ) := by
  obtain ⟨w, hw, ew⟩ := pb_note (z := z) hX hR hV hN hb
  match i, hi with
  | 0, _ => rw [f_L_measure, if_pos (by decide), ql_bar1 hX hR hV hb, pq_bd, pq_ms, if_pos (by decide)]
  | 1, _ => rw [f_L_measure, if_neg (by decide), if_pos (by decide), hw, pq_bd, ew, pq_ms, if_neg (by decide), if_pos (by decide)]
  | 2, _ => rw [f_L_measure, if_neg (by decide), if_neg (by decide), if_pos (by decide), ql_bar5 hX hR hV hb, pq_bd, pq_ms, if_neg (by decide), if_neg (by decide), if_pos (by decide)]
  | 3, _ => rw [f_L_measure, if_neg (by decide), if_neg (by decide), if_neg (by decide), ql_bar6 hX hR hV hb, pq_bd, pq_ms, if_neg (by decide), if_neg (by decide), if_neg (by decide)]
theorem pb_421 (hX : pq_X rf x) (hR : pq_R σ (x + 2) g n p) (hV : pq_V g n p N) (hN : N ≤ 900) {i : Nat} (hi : i < 4) (v3 v4 v5 v6 v7 v8 v9 : Int32) (K : Int32 → rc_S → Option (Int32 × rc_S)) : ∀ (d fu k : Nat), k + d = n ∨ (n < k ∧ d = 0) → 1 ≤ k → k < 20 → ∃ v : Int32, f_L_isWhole_421 rf z x (Int32.ofNat n) v3 v4 v5 v6 v7 v8 v9 (Int32.ofNat i) K (fu + d + 1) (Int32.ofNat k) σ = K v σ := by
  have h8 := pq_vn hV
  obtain ⟨m, hm⟩ : ∃ m : Nat → Nat, ∀ b, b < n → m b ≤ 900 ∧ pq_ms g (Int32.ofNat i) b = Int32.ofNat (m b) :=
    ⟨fun b => (pq_ms g (Int32.ofNat i) b).toNatClampNeg, fun b hb => by
      obtain ⟨v, hv, ev⟩ := pb_msB hV hN hb (Int32.ofNat i)
      show (pq_ms g (Int32.ofNat i) b).toNatClampNeg ≤ 900 ∧ pq_ms g (Int32.ofNat i) b = Int32.ofNat (pq_ms g (Int32.ofNat i) b).toNatClampNeg
      rw [ev, pq_cl (by omega)]; exact ⟨hv, rfl⟩⟩
  intro d
  induction d with
  | zero =>
    intro fu k h hk h20
    have hkn : n ≤ k := by omega
    exact ⟨_, by rw [f_L_isWhole_421, if_pos ((pq_le (by omega) (by omega)).mpr hkn)]⟩
  | succ d ih =>
    intro fu k h hk h20
    have hkn : k < n := by omega
    obtain ⟨a, ha, ea, ra⟩ := pb_rank (z := z) hX hR hV hN hi hm (k := k - 1) (by omega)
    obtain ⟨b, hb, eb, rb⟩ := pb_rank (z := z) hX hR hV hN hi hm (k := k) hkn
    have ma := hm a ha
    have mb := hm b hb
    have h1 := pb_plM (m := m) (n := n) (a := a) (b := b) ha hb
    have hne : a ≠ b := fun q => by rw [q] at ea; omega
    have hle : m b ≤ m a := by omega
    obtain ⟨v, ev⟩ := ih fu (k + 1) (by omega) (by omega) (by omega)
    refine ⟨v, ?_⟩
    rw [show fu + (d + 1) + 1 = (fu + d + 1) + 1 from rfl, f_L_isWhole_421, if_neg (pb_nle hkn (by omega)), q9_k1 (by omega), ra, pq_bd, rb, pq_bd, pb_meas hX hR hV hN hi ha, pq_bd, pb_meas hX hR hV hN hi hb, pq_bd, rc_lt, ma.2, mb.2, ← Int32.ofNat_sub _ _ hle, if_neg (pb_n0 (by omega))]
    refine (pb_js σ (fun J => ?_)).trans ?_
    · by_cases q : Int32.ofNat (m a - m b) = 0
      · have q2 : m a - m b = 0 := (pq_eq (m := 0) (by omega) (by decide)).mp q
        rw [if_pos q, if_pos ((pq_le (by omega) (by omega)).mpr (by omega))]
      · rw [if_neg q]
    · show rc_lt (Int32.ofNat k + 1) _ = _
      rw [rc_lt, pq_s]
      exact ev
theorem pb_412 (hX : pq_X rf x) (hR : pq_R σ (x + 2) g n p) (hV : pq_V g n p N) (hN : N ≤ 900) (v3 v4 v5 v6 v7 v8 v9 : Int32) (K : Int32 → rc_S → Option (Int32 × rc_S)) : ∀ (d fu i : Nat), i + d = 4 → f_L_isWhole_412 rf z x (Int32.ofNat n) v3 v4 v5 v6 v7 v8 v9 K (fu + d + 1) (Int32.ofNat i) σ = K (Int32.ofNat 4) σ := by
  have h8 := pq_vn hV
  intro d
  induction d with
  | zero =>
    intro fu i h
    have hi : i = 4 := by omega
    subst hi
    rw [f_L_isWhole_412, if_pos (show (4 : Int32) ≤ Int32.ofNat 4 from Int32.le_refl _)]
  | succ d ih =>
    intro fu i h
    have hi : i < 4 := by omega
    rw [show fu + (d + 1) + 1 = (fu + d + 1) + 1 from rfl, f_L_isWhole_412, if_neg (show ¬ (4 : Int32) ≤ Int32.ofNat i from pb_nle (n := 4) hi (by decide))]
    obtain ⟨v, ev⟩ := pb_421 (z := z) hX hR hV hN hi v3 v4 v5 v6 v7 v8 v9 (fun v11_96 σ_97 => rc_lt (Int32.ofNat i + 1) fun v10_98 => f_L_isWhole_412 rf z x (Int32.ofNat n) v3 v4 v5 v6 v7 v8 v9 K (fu + d + 1) v10_98 σ_97) (n - 1) (8 - (n - 1)) 1 (by omega) (by omega) (by omega)
    rw [show 8 - (n - 1) + (n - 1) + 1 = 9 by omega, show Int32.ofNat 1 = (1 : Int32) from rfl] at ev
    refine ev.trans ?_
    rw [rc_lt, pq_s]
    exact ih fu (i + 1) (by omega)
/-- all barrels stand under a roof -/
theorem pb_sumR (hV : pq_V g n p N) : pq_fd (fun r a => a + pb_cn g n r) 0 4 0 = Int32.ofNat n ∧ pq_fd (fun r a => a + pb_li g n r) 0 4 0 = pb_fl g n := by
  have h8 := pq_vn hV
  have hr : ∀ b, 0 ≤ b → b < 0 + n → ∀ v : Int32, is (fun r => if g (15 + 6 * b) = Int32.ofNat r then v else 0) 0 4 = v := fun b _ hb v => by
    obtain ⟨S, hS, e⟩ := pq_rN hV (show b < n by omega)
    rw [e, is_o 4 0 (by omega) (by omega), if_pos (by omega)]
  have ec : ∀ r, pb_cn g n r = is (fun b => if g (15 + 6 * b) = Int32.ofNat r then (1 : Int32) else 0) 0 n := fun r => by
    have := is_fd (f := fun b => if g (15 + 6 * b) = Int32.ofNat r then (1 : Int32) else 0) n 0 0
    rw [Int32.zero_add] at this
    rw [← this, ← is_if (P := fun b => g (15 + 6 * b) = Int32.ofNat r) (f := fun _ => (1 : Int32))]
    rfl
  have el : ∀ r, pb_li g n r = is (fun b => if g (15 + 6 * b) = Int32.ofNat r then g (16 + 6 * b) else 0) 0 n := fun r => by
    have := is_fd (f := fun b => if g (15 + 6 * b) = Int32.ofNat r then g (16 + 6 * b) else 0) n 0 0
    rw [Int32.zero_add] at this
    rw [← this, ← is_if (P := fun b => g (15 + 6 * b) = Int32.ofNat r) (f := fun b => g (16 + 6 * b))]
    rfl
  refine ⟨?_, ?_⟩
  · rw [is_fd, Int32.zero_add, is_c 4 0 (fun r _ _ => ec r), is_x, is_c n 0 (fun b h1 h2 => hr b h1 h2 1), is_1]
  · rw [is_fd, Int32.zero_add, is_c 4 0 (fun r _ _ => el r), is_x, is_c n 0 (fun b h1 h2 => hr b h1 h2 _), pb_fl, is_fd, Int32.zero_add]
/-- all rain in barrels is of one of the storms -/
theorem pb_sumV (hV : pq_V g n p N) (hN : N ≤ 900) (hI : pI g n) {T : Nat} (hT : g 4 = Int32.ofNat T) (hT1 : T ≤ 100) : pq_fd (fun k a => a + pb_vi g n k) 0 T 0 = pb_fl g n := by
  have h8 := pq_vn hV
  have ev : ∀ k, pb_vi g n k = is (fun b => if g (18 + 6 * b) = Int32.ofNat k then g (16 + 6 * b) else 0) 0 n := fun k => by
    have := is_fd (f := fun b => if g (18 + 6 * b) = Int32.ofNat k then g (16 + 6 * b) else 0) n 0 0
    rw [Int32.zero_add] at this
    rw [← this, ← is_if (P := fun b => g (18 + 6 * b) = Int32.ofNat k) (f := fun b => g (16 + 6 * b))]
    rfl
  have hb : ∀ b, 0 ≤ b → b < 0 + n → is (fun k => if g (18 + 6 * b) = Int32.ofNat k then g (16 + 6 * b) else 0) 0 T = g (16 + 6 * b) := fun b _ hb => by
    by_cases h2 : g (16 + 6 * b) = 0
    · rw [h2]
      refine (is_c T 0 (fun k _ _ => ?_)).trans (is_z T 0)
      split <;> rfl
    · have v0 := pq_vb0 hV (show b < n by omega) h2
      have v1 := hI.1 b (by omega)
      rw [hT] at v1
      obtain ⟨s, hs, e⟩ := pq_nat (pb_ge0 v0) v1 (by omega)
      rw [e, is_o T 0 (by omega) (by omega), if_pos (by omega)]
  rw [is_fd, Int32.zero_add, is_c T 0 (fun k _ _ => ev k), is_x, is_c n 0 hb, pb_fl, is_fd, Int32.zero_add]
theorem pb_whole (hX : pq_X rf x) (hR : pq_R σ (x + 2) g n p) (hV : pq_V g n p N) (hN : N ≤ 100) (hI : pI g n) {L : List Nat} (hO : pq_OC σ x L) {y : Nat} (hy : y ≤ 20) : ∃ σ' L', f_L_isWhole rf z x (Int32.ofNat y) σ = some (1, σ') ∧ pF x σ σ' ∧ pq_OC σ' x L' := by
  have h8 := pq_vn hV
  have h4 := pq_vp hV
  obtain ⟨T, hT9, hT, -⟩ := hI.2.2
  have hT1 : T ≤ 100 := by
    have v4 := (pq_v4 hV).2
    rw [hT, pq_ti (by omega)] at v4
    omega
  obtain ⟨σ1, L1, k20, f1, o1⟩ := pb_20 (z := z) hX hV (by omega) hI hy n (8 - n) 0 σ L 0 0 0 0 (by omega) hR hO
  rw [show 8 - n + n + 1 = 9 by omega, show Int32.ofNat 0 = (0 : Int32) from rfl] at k20
  have R1 := pF_R f1 hR hV
  have k211 := fun v2 v3 v4 v5 v6 K => pb_211 (z := z) hX R1 hV v2 v3 v4 v5 v6 K 4 0 0 0 0 (by omega)
  rw [show 0 + 4 + 1 = 5 by omega, show Int32.ofNat 0 = (0 : Int32) from rfl] at k211
  have k294 := fun v2 v3 v4 v5 v6 v7 v8 K => pb_294 (z := z) hX R1 hV hI hT hT1 v2 v3 v4 v5 v6 v7 v8 K T (100 - T) 0 0 (by omega)
  rw [show 100 - T + T + 1 = 101 by omega, show Int32.ofNat 0 = (0 : Int32) from rfl] at k294
  have k412 := fun v3 v4 v5 v6 v7 v8 v9 K => pb_412 (z := z) hX R1 hV (by omega) v3 v4 v5 v6 v7 v8 v9 K 4 0 0 (by omega)
  rw [show 0 + 4 + 1 = 5 by omega, show Int32.ofNat 0 = (0 : Int32) from rfl] at k412
  have sR := pb_sumR hV
  have sV := pb_sumV hV (by omega) hI hT hT1
  have v2 := pq_v2 hV
  have c8 : ¬ (8 : Int32) < Int32.ofNat n := fun q => by have := (pq_lt (n := 8) (by decide) (by omega)).mp q; omega
  have c4 : ¬ (4 : Int32) < g 1 := by rw [pq_v1 hV]; exact fun q => by have := (pq_lt (n := 4) (by decide) (by omega)).mp q; omega
  obtain ⟨Q, F, hQ, hF, eQ, eF, em⟩ := ql_mean (z := z) hX R1 hV (show N ≤ 90000 by omega)
  obtain ⟨Q2, F2, hQ2, hF2, eh, el, es⟩ := ql_hs (z := z) hX R1 hV
  refine ⟨σ1, L1, ?_, f1, o1⟩
  rw [f_L_isWhole, ql_acc0 hX hR hV, pq_bd, pq_v0 hV]
  refine (k20 _).trans ?_
  refine (k211 _ _ _ _ _ _).trans ?_
  refine (k294 _ _ _ _ _ _ _ _).trans ?_
  refine (k412 _ _ _ _ _ _ _ _).trans ?_
  show rc_bd (f_L_account rf z x 1 σ1) _ = _
  rw [ql_acc1 hX R1 hV, pq_bd]
  refine (pb_jg (1 : Int32) σ1 (fun J => ?_)).trans ?_
  · rw [if_pos (show pb_fl g n = pq_fd (fun b a => a + g (16 + 6 * b)) 0 n 0 from rfl), if_pos (show pq_fd (fun r a => a + pb_li g n r) 0 4 0 = pq_fd (fun b a => a + g (16 + 6 * b)) 0 n 0 from sR.2), if_pos sR.1, if_pos (show pq_fd (fun k a => a + pb_vi g n k) 0 T 0 = pq_fd (fun b a => a + g (16 + 6 * b)) 0 n 0 from sV), ql_acc2 hX R1 hV, pq_bd, if_neg (pb_ge0 v2.1), ql_acc2 hX R1 hV, pq_bd, if_neg (pb_le9 v2.2), if_neg c8, ql_acc3 hX R1 hV, pq_bd, if_neg c4, qf_even hX R1 hV, pq_bd, if_pos hI.2.1, if_neg (by decide)]
  · show rc_bd (f_L_meanNote rf z x σ1) _ = _
    rw [em, pq_bd]
    refine (pb_jg (if F = 0 then (13858279740860792832 : UInt64) else FP.ddiv (FP.i2d (Int32.ofNat Q)) (FP.i2d (Int32.ofNat F))) σ1 (fun J => ?_)).trans ?_
    · rw [eQ, eF]
      by_cases h0 : F = 0
      · rw [if_pos h0, if_pos (by rw [h0]; rfl)]
      · rw [if_neg h0, if_neg (show ¬ Int32.ofNat F = 0 from fun q => h0 ((pq_eq (m := 0) (n := F) (by omega) (show 0 < 2147483648 by decide)).mp q)), pq_cd (pq_dn0 Q (by omega) F (by omega) h0)]
    · show rc_jn _ _ = _
      refine (pb_jg (1 : Int32) σ1 (fun J => ?_)).trans ?_
      · have hdc : Op.cmpValue (FP.dcmp (if F = 0 then (13858279740860792832 : UInt64) else FP.ddiv (FP.i2d (Int32.ofNat Q)) (FP.i2d (Int32.ofNat F))) (if F = 0 then (13858279740860792832 : UInt64) else FP.ddiv (FP.i2d (Int32.ofNat Q)) (FP.i2d (Int32.ofNat F)))) .l = 0 := by
          by_cases h0 : F = 0
          · rw [if_pos h0]; decide +kernel
          · rw [if_neg h0]; exact pq_dnn Q (by omega) F (by omega) h0
        rw [if_pos hdc, es, pq_bd]
        refine (pb_jg (if F2 = 0 then (3264479232 : UInt32) else FP.fdiv (FP.i2f (Int32.ofNat Q2)) (FP.i2f (Int32.ofNat F2))) σ1 (fun J2 => ?_)).trans ?_
        · rw [show pq_fd (fun b a => a + g (16 + 6 * b)) 0 n 0 = Int32.ofNat F2 from el, show pq_fd (fun b a => a + g (17 + 6 * b)) 0 n 0 = Int32.ofNat Q2 from eh]
          by_cases h0 : F2 = 0
          · rw [if_pos h0, if_pos (by rw [h0]; rfl)]
          · rw [if_neg h0, if_neg (show ¬ Int32.ofNat F2 = 0 from fun q => h0 ((pq_eq (m := 0) (n := F2) (by omega) (show 0 < 2147483648 by decide)).mp q)), pq_cd (pb_fnn F2 (by omega) h0 Q2 (by omega))]
        · have hfc : Op.cmpValue (FP.fcmp (if F2 = 0 then (3264479232 : UInt32) else FP.fdiv (FP.i2f (Int32.ofNat Q2)) (FP.i2f (Int32.ofNat F2))) (if F2 = 0 then (3264479232 : UInt32) else FP.fdiv (FP.i2f (Int32.ofNat Q2)) (FP.i2f (Int32.ofNat F2)))) .l = 0 := by
            by_cases h0 : F2 = 0
            · rw [if_pos h0]; decide +kernel
            · rw [if_neg h0]; exact (pq_fnn F2 (by omega) h0 Q2 (by omega)).2
          show (if Op.cmpValue (FP.fcmp _ _) .l = 0 then J (1 : Int32) σ1 else J (0 : Int32) σ1) = _
          rw [if_pos hfc]
      · have hvo : ¬ (¬ g 4 < 0 ∧ ¬ g 4 - 1 < g 4) := fun q => by
          refine q.2 ?_
          rw [hT]
          by_cases t0 : T = 0
          · subst t0; decide
          · rw [pb_t1 (by omega)]; exact (pq_lt (by omega) (by omega)).mpr (by omega)
        show (if (1 : Int32) = 0 then _ else _) = _
        rw [if_neg (by decide), if_neg (by decide), pb_rankO hX R1 hV (by omega), pq_bd, if_pos rfl, ql_acc5 hX R1 hV, pq_bd, ql_vinO hX R1 hV hvo, pq_bd, if_pos rfl]
end PB5
