/-! where the reference's number i lies in a cellar of the class -/
def pq_ad (i : Nat) : Nat := if i = 1 then 3 else if i < 11 then 0 else if i < 15 then 1 else if i < 63 then 7 + (i - 15) / 6 else if i < 71 then 4 + (i - 63) % 2 else 15 + (i - 71) / 3
def pq_sl (i : Nat) : Nat := if i < 11 then [2, 2, 6, 7, 5, 8, 9, 10, 11, 12, 13].getD i 0 else if i < 15 then i - 11 else if i < 63 then [0, 1, 2, 3, 5, 4].getD ((i - 15) % 6) 0 else if i < 71 then (i - 63) / 2 else (i - 71) % 3
def pq_lv (n p i : Nat) : Prop := i < 15 ∨ (15 ≤ i ∧ i < 15 + 6 * n) ∨ (63 ≤ i ∧ i < 63 + 2 * p) ∨ (71 ≤ i ∧ i < 107)
theorem pq_inj : ∀ i, i < 107 → ∀ j, j < 107 → j ≠ i → ¬ (pq_ad j = pq_ad i ∧ pq_sl j = pq_sl i) := by decide +kernel
theorem pq_adl : ∀ i, i < 107 → pq_ad i < 27 := by decide +kernel
theorem pq_adb {b k : Nat} (hb : b < 8) (hk : k < 6) : pq_ad (15 + 6 * b + k) = 7 + b ∧ pq_sl (15 + 6 * b + k) = [0, 1, 2, 3, 5, 4].getD k 0 := by
  unfold pq_ad pq_sl
  rw [if_neg (by omega), if_neg (by omega), if_neg (by omega), if_pos (by omega), if_neg (by omega), if_neg (by omega), if_pos (by omega), show (15 + 6 * b + k - 15) / 6 = b by omega, show (15 + 6 * b + k - 15) % 6 = k by omega]
  exact ⟨rfl, rfl⟩
theorem pq_adp {j k : Nat} (hj : j < 4) (hk : k < 2) : pq_ad (63 + 2 * j + k) = 4 + k ∧ pq_sl (63 + 2 * j + k) = j := by
  unfold pq_ad pq_sl
  rw [if_neg (by omega), if_neg (by omega), if_neg (by omega), if_neg (by omega), if_pos (by omega), if_neg (by omega), if_neg (by omega), if_neg (by omega), if_pos (by omega)]
  omega
theorem pq_adq {q k : Nat} (hq : q < 12) (hk : k < 3) : pq_ad (71 + 3 * q + k) = 15 + q ∧ pq_sl (71 + 3 * q + k) = k := by
  unfold pq_ad pq_sl
  rw [if_neg (by omega), if_neg (by omega), if_neg (by omega), if_neg (by omega), if_neg (by omega), if_neg (by omega), if_neg (by omega), if_neg (by omega), if_neg (by omega)]
  omega
theorem pq_adm {r : Nat} (hr : r < 4) : pq_ad (11 + r) = 1 ∧ pq_sl (11 + r) = r := by
  unfold pq_ad pq_sl
  rw [if_neg (by omega), if_neg (by omega), if_pos (by omega), if_neg (by omega), if_pos (by omega)]
  omega
/-- of which numbers the two agree -/
def pq_S (σ : rc_S) (c : Nat) (g : Nat → Int32) (S : Nat → Prop) : Prop := ∀ i, i < 107 → S i → σ (c + pq_ad i) (pq_sl i) = g i
section PQS
variable {σ : rc_S} {c n p : Nat} {g : Nat → Int32} {S : Nat → Prop}
theorem pq_RS (h : pq_R σ c g n p) (hn : n ≤ 8) (hp : p ≤ 4) : pq_S σ c g (pq_lv n p) := by
  intro i hi hl
  obtain ⟨⟨h0, h1, h2, h3, h4, h5, h6, h7, h8, h9, h10⟩, hm, hb, hq, hr⟩ := h
  by_cases i11 : i < 11
  · match i, i11 with
    | 0, _ => exact h0
    | 1, _ => exact h1
    | 2, _ => exact h2
    | 3, _ => exact h3
    | 4, _ => exact h4
    | 5, _ => exact h5
    | 6, _ => exact h6
    | 7, _ => exact h7
    | 8, _ => exact h8
    | 9, _ => exact h9
    | 10, _ => exact h10
    | k + 11, hk => omega
  · by_cases i15 : i < 15
    · obtain ⟨r, hr4, rfl⟩ : ∃ r, r < 4 ∧ i = 11 + r := ⟨i - 11, by omega, by omega⟩
      rw [(pq_adm hr4).1, (pq_adm hr4).2]; exact hm r hr4
    · by_cases i63 : i < 63
      · obtain ⟨b, k, hb8, hk6, rfl⟩ : ∃ b k, b < n ∧ k < 6 ∧ i = 15 + 6 * b + k := ⟨(i - 15) / 6, (i - 15) % 6, by unfold pq_lv at hl; omega, by omega, by omega⟩
        have q := hb b hb8
        rw [(pq_adb (by omega) hk6).1, (pq_adb (by omega) hk6).2, ← Nat.add_assoc]
        match k, hk6 with
        | 0, _ => exact q.1
        | 1, _ => rw [show 15 + 6 * b + 1 = 16 + 6 * b by omega]; exact q.2.1
        | 2, _ => rw [show 15 + 6 * b + 2 = 17 + 6 * b by omega]; exact q.2.2.1
        | 3, _ => rw [show 15 + 6 * b + 3 = 18 + 6 * b by omega]; exact q.2.2.2.1
        | 4, _ => rw [show 15 + 6 * b + 4 = 19 + 6 * b by omega]; exact q.2.2.2.2.1
        | 5, _ => rw [show 15 + 6 * b + 5 = 20 + 6 * b by omega]; exact q.2.2.2.2.2
        | k + 6, hk => omega
      · by_cases i71 : i < 71
        · obtain ⟨j, k, hj, hk2, rfl⟩ : ∃ j k, j < p ∧ k < 2 ∧ i = 63 + 2 * j + k := ⟨(i - 63) / 2, (i - 63) % 2, by unfold pq_lv at hl; omega, by omega, by omega⟩
          have q := hq j hj
          rw [(pq_adp (by omega) hk2).1, (pq_adp (by omega) hk2).2]
          match k, hk2 with
          | 0, _ => exact q.1
          | 1, _ => rw [show 63 + 2 * j + 1 = 64 + 2 * j by omega]; exact q.2
          | k + 2, hk => omega
        · obtain ⟨s, k, hs, hk3, rfl⟩ : ∃ s k, s < 12 ∧ k < 3 ∧ i = 71 + 3 * s + k := ⟨(i - 71) / 3, (i - 71) % 3, by omega, by omega, by omega⟩
          have q := hr s hs
          rw [(pq_adq hs hk3).1, (pq_adq hs hk3).2, ← Nat.add_assoc]
          match k, hk3 with
          | 0, _ => exact q.1
          | 1, _ => rw [show 71 + 3 * s + 1 = 72 + 3 * s by omega]; exact q.2.1
          | 2, _ => rw [show 71 + 3 * s + 2 = 73 + 3 * s by omega]; exact q.2.2
          | k + 3, hk => omega
theorem pq_SR (h : pq_S σ c g S) (hn : n ≤ 8) (hp : p ≤ 4) (hS : ∀ i, i < 107 → pq_lv n p i → S i) : pq_R σ c g n p := by
  have e : ∀ i, i < 107 → pq_lv n p i → σ (c + pq_ad i) (pq_sl i) = g i := fun i hi hl => h i hi (hS i hi hl)
  refine ⟨⟨e 0 (by omega) (Or.inl (by omega)), e 1 (by omega) (Or.inl (by omega)), e 2 (by omega) (Or.inl (by omega)), e 3 (by omega) (Or.inl (by omega)), e 4 (by omega) (Or.inl (by omega)), e 5 (by omega) (Or.inl (by omega)), e 6 (by omega) (Or.inl (by omega)), e 7 (by omega) (Or.inl (by omega)), e 8 (by omega) (Or.inl (by omega)), e 9 (by omega) (Or.inl (by omega)), e 10 (by omega) (Or.inl (by omega))⟩, fun r hr => ?_, fun b hb => ?_, fun j hj => ?_, fun q hq => ?_⟩
  · have := e (11 + r) (by omega) (Or.inl (by omega))
    rw [(pq_adm hr).1, (pq_adm hr).2] at this; exact this
  · have f := fun k (hk : k < 6) => e (15 + 6 * b + k) (by omega) (Or.inr (Or.inl (by omega)))
    have g := fun k (hk : k < 6) => pq_adb (b := b) (k := k) (by omega) hk
    have f0 := f 0 (by omega); have f1 := f 1 (by omega); have f2 := f 2 (by omega); have f3 := f 3 (by omega); have f4 := f 4 (by omega); have f5 := f 5 (by omega)
    rw [(g 0 (by omega)).1, (g 0 (by omega)).2, ← Nat.add_assoc] at f0
    rw [(g 1 (by omega)).1, (g 1 (by omega)).2, ← Nat.add_assoc, show 15 + 6 * b + 1 = 16 + 6 * b by omega] at f1
    rw [(g 2 (by omega)).1, (g 2 (by omega)).2, ← Nat.add_assoc, show 15 + 6 * b + 2 = 17 + 6 * b by omega] at f2
    rw [(g 3 (by omega)).1, (g 3 (by omega)).2, ← Nat.add_assoc, show 15 + 6 * b + 3 = 18 + 6 * b by omega] at f3
    rw [(g 4 (by omega)).1, (g 4 (by omega)).2, ← Nat.add_assoc, show 15 + 6 * b + 4 = 19 + 6 * b by omega] at f4
    rw [(g 5 (by omega)).1, (g 5 (by omega)).2, ← Nat.add_assoc, show 15 + 6 * b + 5 = 20 + 6 * b by omega] at f5
    exact ⟨f0, f1, f2, f3, f4, f5⟩
  · have f0 := e (63 + 2 * j + 0) (by omega) (Or.inr (Or.inr (Or.inl (by omega))))
    have f1 := e (63 + 2 * j + 1) (by omega) (Or.inr (Or.inr (Or.inl (by omega))))
    rw [(pq_adp (by omega) (by omega)).1, (pq_adp (by omega) (by omega)).2] at f0 f1
    rw [show 63 + 2 * j + 1 = 64 + 2 * j by omega] at f1
    exact ⟨f0, f1⟩
  · have f := fun k (hk : k < 3) => e (71 + 3 * q + k) (by omega) (Or.inr (Or.inr (Or.inr (by omega))))
    have f0 := f 0 (by omega); have f1 := f 1 (by omega); have f2 := f 2 (by omega)
    rw [(pq_adq hq (by omega)).1, (pq_adq hq (by omega)).2, ← Nat.add_assoc] at f0 f1 f2
    rw [show 71 + 3 * q + 1 = 72 + 3 * q by omega] at f1
    rw [show 71 + 3 * q + 2 = 73 + 3 * q by omega] at f2
    exact ⟨f0, f1, f2⟩
theorem pq_Su (h : pq_S σ c g S) {i a s : Nat} (hi : i < 107) (ha : a = c + pq_ad i) (hs : s = pq_sl i) (v : Int32) : pq_S (rc_up σ a s v) c (upd g i v) (fun j => S j ∨ j = i) := by
  intro j hj hS
  subst ha
  subst hs
  by_cases e : j = i
  · subst e; rw [pq_upE, pq_udE, pq_udE]
  · rw [pq_udN e]
    have hS2 : S j := by rcases hS with q | q; exact q; exact absurd q e
    have hne := pq_inj i hi j hj e
    by_cases e2 : c + pq_ad j = c + pq_ad i
    · rw [e2, pq_upE, pq_udN (fun q => hne ⟨by omega, q⟩), ← e2]; exact h j hj hS2
    · rw [pq_upN e2]; exact h j hj hS2
theorem pq_Sub (h : pq_S σ c g S) {b : Nat} (hb : b < 8) (k : Nat) (hk : k < 6) (v : Int32) : pq_S (rc_up σ (c + 7 + b) ([0, 1, 2, 3, 5, 4].getD k 0) v) c (upd g (15 + 6 * b + k) v) (fun j => S j ∨ j = 15 + 6 * b + k) :=
  pq_Su h (by omega) (by rw [(pq_adb hb hk).1]; omega) (by rw [(pq_adb hb hk).2]) v

theorem pq_Sb0 (h : pq_S σ c g S) {b : Nat} (hb : b < 8) (v : Int32) : pq_S (rc_up σ (c + 7 + b) 0 v) c (upd g (15 + 6 * b) v) (fun j => S j ∨ j = 15 + 6 * b) := by
  have e := pq_Sub h hb 0 (by omega) v
  rw [show 15 + 6 * b + 0 = 15 + 6 * b by omega] at e
  exact e
theorem pq_Sb1 (h : pq_S σ c g S) {b : Nat} (hb : b < 8) (v : Int32) : pq_S (rc_up σ (c + 7 + b) 1 v) c (upd g (16 + 6 * b) v) (fun j => S j ∨ j = 16 + 6 * b) := by
  have e := pq_Sub h hb 1 (by omega) v
  rw [show 15 + 6 * b + 1 = 16 + 6 * b by omega] at e
  exact e
theorem pq_Sb2 (h : pq_S σ c g S) {b : Nat} (hb : b < 8) (v : Int32) : pq_S (rc_up σ (c + 7 + b) 2 v) c (upd g (17 + 6 * b) v) (fun j => S j ∨ j = 17 + 6 * b) := by
  have e := pq_Sub h hb 2 (by omega) v
  rw [show 15 + 6 * b + 2 = 17 + 6 * b by omega] at e
  exact e
theorem pq_Sb3 (h : pq_S σ c g S) {b : Nat} (hb : b < 8) (v : Int32) : pq_S (rc_up σ (c + 7 + b) 3 v) c (upd g (18 + 6 * b) v) (fun j => S j ∨ j = 18 + 6 * b) := by
  have e := pq_Sub h hb 3 (by omega) v
  rw [show 15 + 6 * b + 3 = 18 + 6 * b by omega] at e
  exact e
theorem pq_Sb4 (h : pq_S σ c g S) {b : Nat} (hb : b < 8) (v : Int32) : pq_S (rc_up σ (c + 7 + b) 5 v) c (upd g (19 + 6 * b) v) (fun j => S j ∨ j = 19 + 6 * b) := by
  have e := pq_Sub h hb 4 (by omega) v
  rw [show 15 + 6 * b + 4 = 19 + 6 * b by omega] at e
  exact e
theorem pq_Sb5 (h : pq_S σ c g S) {b : Nat} (hb : b < 8) (v : Int32) : pq_S (rc_up σ (c + 7 + b) 4 v) c (upd g (20 + 6 * b) v) (fun j => S j ∨ j = 20 + 6 * b) := by
  have e := pq_Sub h hb 5 (by omega) v
  rw [show 15 + 6 * b + 5 = 20 + 6 * b by omega] at e
  exact e
theorem pq_Sc0 (h : pq_S σ c g S) (v : Int32) : pq_S (rc_up σ c 2 v) c (upd g 0 v) (fun j => S j ∨ j = 0) := pq_Su h (by decide) rfl rfl v
theorem pq_Sc1 (h : pq_S σ c g S) (v : Int32) : pq_S (rc_up σ (c + 3) 2 v) c (upd g 1 v) (fun j => S j ∨ j = 1) := pq_Su h (by decide) rfl rfl v
theorem pq_Sc2 (h : pq_S σ c g S) (v : Int32) : pq_S (rc_up σ c 6 v) c (upd g 2 v) (fun j => S j ∨ j = 2) := pq_Su h (by decide) rfl rfl v
theorem pq_Sc3 (h : pq_S σ c g S) (v : Int32) : pq_S (rc_up σ c 7 v) c (upd g 3 v) (fun j => S j ∨ j = 3) := pq_Su h (by decide) rfl rfl v
theorem pq_Sc4 (h : pq_S σ c g S) (v : Int32) : pq_S (rc_up σ c 5 v) c (upd g 4 v) (fun j => S j ∨ j = 4) := pq_Su h (by decide) rfl rfl v
theorem pq_Sc5 (h : pq_S σ c g S) (v : Int32) : pq_S (rc_up σ c 8 v) c (upd g 5 v) (fun j => S j ∨ j = 5) := pq_Su h (by decide) rfl rfl v
theorem pq_Sc6 (h : pq_S σ c g S) (v : Int32) : pq_S (rc_up σ c 9 v) c (upd g 6 v) (fun j => S j ∨ j = 6) := pq_Su h (by decide) rfl rfl v
theorem pq_Sc7 (h : pq_S σ c g S) (v : Int32) : pq_S (rc_up σ c 10 v) c (upd g 7 v) (fun j => S j ∨ j = 7) := pq_Su h (by decide) rfl rfl v
theorem pq_Sc8 (h : pq_S σ c g S) (v : Int32) : pq_S (rc_up σ c 11 v) c (upd g 8 v) (fun j => S j ∨ j = 8) := pq_Su h (by decide) rfl rfl v
theorem pq_Sc9 (h : pq_S σ c g S) (v : Int32) : pq_S (rc_up σ c 12 v) c (upd g 9 v) (fun j => S j ∨ j = 9) := pq_Su h (by decide) rfl rfl v
theorem pq_Sc10 (h : pq_S σ c g S) (v : Int32) : pq_S (rc_up σ c 13 v) c (upd g 10 v) (fun j => S j ∨ j = 10) := pq_Su h (by decide) rfl rfl v
theorem pq_Sm (h : pq_S σ c g S) {r : Nat} (hr : r < 4) (v : Int32) : pq_S (rc_up σ (c + 1) r v) c (upd g (11 + r) v) (fun j => S j ∨ j = 11 + r) := pq_Su h (by omega) (by rw [(pq_adm hr).1]) (by rw [(pq_adm hr).2]) v
theorem pq_Spp (h : pq_S σ c g S) {j : Nat} (hj : j < 4) (v : Int32) : pq_S (rc_up σ (c + 4) j v) c (upd g (63 + 2 * j) v) (fun i => S i ∨ i = 63 + 2 * j) := pq_Su h (by omega) (by have := (pq_adp hj (show 0 < 2 by omega)).1; rw [Nat.add_zero] at this; rw [this]) (by have := (pq_adp hj (show 0 < 2 by omega)).2; rw [Nat.add_zero] at this; rw [this]) v
theorem pq_Sps (h : pq_S σ c g S) {j : Nat} (hj : j < 4) (v : Int32) : pq_S (rc_up σ (c + 5) j v) c (upd g (64 + 2 * j) v) (fun i => S i ∨ i = 64 + 2 * j) := pq_Su h (by omega) (by have := (pq_adp hj (show 1 < 2 by omega)).1; rw [show 63 + 2 * j + 1 = 64 + 2 * j by omega] at this; rw [this]) (by have := (pq_adp hj (show 1 < 2 by omega)).2; rw [show 63 + 2 * j + 1 = 64 + 2 * j by omega] at this; rw [this]) v
theorem pq_Sq (h : pq_S σ c g S) {q : Nat} (hq : q < 12) (k : Nat) (hk : k < 3) (v : Int32) : pq_S (rc_up σ (c + 15 + q) k v) c (upd g (71 + 3 * q + k) v) (fun i => S i ∨ i = 71 + 3 * q + k) := pq_Su h (by omega) (by rw [(pq_adq hq hk).1]; omega) (by rw [(pq_adq hq hk).2]) v
end PQS
/-- what holds of one barrel's numbers -/
def pq_vB (y ro l h by_ t s : Int32) (N : Nat) : Prop := (0 ≤ ro.toInt ∧ ro.toInt ≤ 3) ∧ (0 ≤ h.toInt ∧ h.toInt ≤ l.toInt ∧ l.toInt ≤ 20) ∧ (-1 ≤ by_.toInt ∧ by_.toInt ≤ N) ∧ (0 ≤ t.toInt ∧ t.toInt ≤ 9) ∧ (0 ≤ s.toInt ∧ s.toInt ≤ y.toInt) ∧ (l = 0 → h = 0 ∧ by_ = -1 ∧ t = 0 ∧ s = 0) ∧ (l ≠ 0 → 0 ≤ by_.toInt)
theorem pq_VB {g : Nat → Int32} {n p N b : Nat} (h : pq_V g n p N) (hb : b < n) : pq_vB (g 3) (g (15 + 6 * b)) (g (16 + 6 * b)) (g (17 + 6 * b)) (g (18 + 6 * b)) (g (19 + 6 * b)) (g (20 + 6 * b)) N := h.2.2.2.2.2.2.1 b hb
/-- a new state's numbers hold what they must: from the old ones where they are the same -/
theorem pq_Vn {g g' : Nat → Int32} {n p N n' p' : Nat} (h : pq_V g n p N) (h0 : g' 0 = Int32.ofNat n' ∧ n' ≤ 8) (h1 : g' 1 = Int32.ofNat p' ∧ p' ≤ 4) (h2 : g' 2 = g 2 ∨ (0 ≤ (g' 2).toInt ∧ (g' 2).toInt ≤ 9)) (h3 : g' 3 = g 3 ∨ ((g 3).toInt ≤ (g' 3).toInt ∧ (g' 3).toInt ≤ N + 1)) (h4 : g' 4 = g 4 ∨ (0 ≤ (g' 4).toInt ∧ (g' 4).toInt ≤ N + 1))
    (hm : ∀ r, r < 4 → g' (11 + r) = g (11 + r) ∨ (0 ≤ (g' (11 + r)).toInt ∧ (g' (11 + r)).toInt ≤ 9))
    (hb : ∀ b, b < n' → (b < n ∧ ∀ k, k < 6 → g' (15 + 6 * b + k) = g (15 + 6 * b + k)) ∨ pq_vB (g' 3) (g' (15 + 6 * b)) (g' (16 + 6 * b)) (g' (17 + 6 * b)) (g' (18 + 6 * b)) (g' (19 + 6 * b)) (g' (20 + 6 * b)) (N + 1))
    (hp : ∀ j, j < p' → (j < p ∧ g' (63 + 2 * j) = g (63 + 2 * j) ∧ g' (64 + 2 * j) = g (64 + 2 * j)) ∨ ((0 ≤ (g' (63 + 2 * j)).toInt ∧ (g' (63 + 2 * j)).toInt ≤ 9) ∧ (g' (64 + 2 * j) = 0 ∨ g' (64 + 2 * j) = 1))) : pq_V g' n' p' (N + 1) := by
  have y3 : (g 3).toInt ≤ (g' 3).toInt := by rcases h3 with q | q; rw [q]; exact Int.le_refl _; exact q.1
  refine ⟨h0, h1, ?_, ⟨?_, ?_⟩, ?_, fun r hr => ?_, fun b hb' => ?_, fun j hj => ?_⟩
  · rcases h2 with q | q; rw [q]; exact pq_v2 h; exact q
  · have := (pq_v3 h).1; omega
  · rcases h3 with q | q; rw [q]; have := (pq_v3 h).2; omega; have := q.2; omega
  · rcases h4 with q | q; rw [q]; have := pq_v4 h; omega; exact ⟨q.1, by have := q.2; omega⟩
  · rcases hm r hr with q | q; rw [q]; exact pq_vm h hr; exact q
  · rcases hb b hb' with q | q
    · have e0 := q.2 0 (by omega); have e1 := q.2 1 (by omega); have e2 := q.2 2 (by omega); have e3 := q.2 3 (by omega); have e4 := q.2 4 (by omega); have e5 := q.2 5 (by omega)
      rw [show 15 + 6 * b + 1 = 16 + 6 * b by omega] at e1
      rw [show 15 + 6 * b + 2 = 17 + 6 * b by omega] at e2
      rw [show 15 + 6 * b + 3 = 18 + 6 * b by omega] at e3
      rw [show 15 + 6 * b + 4 = 19 + 6 * b by omega] at e4
      rw [show 15 + 6 * b + 5 = 20 + 6 * b by omega] at e5
      rw [Nat.add_zero] at e0
      have z := pq_VB h q.1
      rw [e0, e1, e2, e3, e4, e5]
      exact ⟨z.1, z.2.1, ⟨z.2.2.1.1, by have := z.2.2.1.2; omega⟩, z.2.2.2.1, ⟨z.2.2.2.2.1.1, Int.le_trans z.2.2.2.2.1.2 y3⟩, z.2.2.2.2.2.1, z.2.2.2.2.2.2⟩
    · exact q
  · rcases hp j hj with q | q
    · rw [q.2.1, q.2.2]; exact ⟨pq_vpp h q.1, pq_vps h q.1⟩
    · exact q
theorem q5_bec {rf : rc_F} {σ : rc_S} {a : Nat} {c d : Int32} : f_X5_because rf a c d σ = some (-1, rc_up (rc_up (rc_up σ a 0 c) a 1 d) a 2 0) := rfl
theorem pq_nn {v : Int32} (h : 0 ≤ v.toInt) : v ≠ -1 := fun q => by subst q; exact absurd h (by decide)
theorem pq_nnN {v : Nat} (h : v < 2147483648) : Int32.ofNat v ≠ -1 := pq_nn (by rw [pq_ti h]; omega)
section PQOP
variable {rf : rc_F} {x : Nat}

end PQOP

section PQOP2
variable {rf : rc_F} {x c m : Nat} {σ : rc_S} {g : Nat → Int32} {n p N b : Nat}
theorem pq_9b {u : Int32} (h : ¬ u < 1 ∧ ¬ 9 < u) : ∃ s, 1 ≤ s ∧ s ≤ 9 ∧ u = Int32.ofNat s := pq_9 h
theorem pq_20b {u : Int32} (h : ¬ u < 1 ∧ ¬ 20 < u) : ∃ s, 1 ≤ s ∧ s ≤ 20 ∧ u = Int32.ofNat s := by
  have a : ¬ u < 0 := by grind
  have b : u < Int32.ofNat 21 := by show u < 21; grind
  obtain ⟨s, hs, e⟩ := pq_nat a b (by decide)
  refine ⟨s, ?_, by omega, e⟩
  by_cases h0 : s = 0
  · subst h0; subst e; exact absurd (by decide) h.1
  · omega
/-- an emptied barrel -/
def pq_em (g : Nat → Int32) (b : Nat) : Nat → Int32 := upd (upd (upd (upd (upd g (16 + 6 * b) 0) (17 + 6 * b) 0) (18 + 6 * b) (-1)) (20 + 6 * b) 0) (19 + 6 * b) 0
/-- u litres, and hl of hail among them, go -/
def pq_go (g : Nat → Int32) (b : Nat) (u hl : Int32) : Nat → Int32 := if g (16 + 6 * b) - u = 0 then pq_em (upd (upd g (16 + 6 * b) (g (16 + 6 * b) - u)) (17 + 6 * b) (g (17 + 6 * b) - hl)) b else upd (upd g (16 + 6 * b) (g (16 + 6 * b) - u)) (17 + 6 * b) (g (17 + 6 * b) - hl)
/-- the hail in u litres -/
def pq_hi (g : Nat → Int32) (b : Nat) (u : Int32) : Int32 := if u * pq_P g b / 100 < u - (g (16 + 6 * b) - g (17 + 6 * b)) then u - (g (16 + 6 * b) - g (17 + 6 * b)) else u * pq_P g b / 100
def pq_w (L H U : Nat) : Nat := if U * (100 * H / L) / 100 + (L - H) < U then U - (L - H) else U * (100 * H / L) / 100
def pq_wk (L H : Nat) : Bool := (List.range 21).all fun U => decide ((H ≤ L ∧ U ≤ L ∧ L ≠ 0) → (pq_w L H U ≤ H ∧ pq_w L H U ≤ U ∧ U + H ≤ L + pq_w L H U))
theorem pq_wkA : ∀ L, L < 21 → ∀ H, H < 21 → pq_wk L H = true := by decide +kernel
theorem pq_hi0 (L : Nat) (hL : L < 21) (H : Nat) (hH : H < 21) (U : Nat) (hU : U < 21) (h : H ≤ L ∧ U ≤ L ∧ L ≠ 0) : pq_w L H U ≤ H ∧ pq_w L H U ≤ U ∧ U + H ≤ L + pq_w L H U :=
  of_decide_eq_true (List.all_eq_true.mp (pq_wkA L hL H hH) U (List.mem_range.mpr hU)) h
theorem pq_hiN {L H U : Nat} (h1 : H ≤ L) (h2 : L ≤ 20) (h3 : U ≤ L) (h0 : L ≠ 0) (e1 : g (17 + 6 * b) = Int32.ofNat H) (e2 : g (16 + 6 * b) = Int32.ofNat L) : ∃ W, W ≤ H ∧ W ≤ U ∧ U + H ≤ L + W ∧ pq_hi g b (Int32.ofNat U) = Int32.ofNat W := by
  obtain ⟨a1, a2, a3⟩ := pq_hi0 L (by omega) H (by omega) U (by omega) ⟨h1, h3, h0⟩
  refine ⟨_, a1, a2, a3, ?_⟩
  have hP : 100 * H / L ≤ 100 := Nat.div_le_of_le_mul (by rw [Nat.mul_comm L]; exact Nat.mul_le_mul_left 100 h1)
  have hm : U * (100 * H / L) ≤ 20 * 100 := Nat.mul_le_mul (by omega) hP
  have hd : U * (100 * H / L) / 100 ≤ 20 * 100 := Nat.le_trans (Nat.div_le_self _ _) hm
  have eP : pq_P g b = Int32.ofNat (100 * H / L) := by rw [pq_P, e1, e2, pq_prN (by omega) (by omega), if_neg h0]
  unfold pq_hi pq_w
  rw [eP, e1, e2]
  clear a1 a2 a3 eP
  generalize 100 * H / L = P at hP hm hd ⊢
  have eq1 : Int32.ofNat U * Int32.ofNat P / 100 = Int32.ofNat (U * P / 100) := by rw [Int32.ofNat_div (by omega) (by decide), Int32.ofNat_mul]; rfl
  rw [eq1, ← Int32.ofNat_sub _ _ h1]
  generalize U * P / 100 = A at hd ⊢
  by_cases hc : A + (L - H) < U
  · rw [if_pos hc, ← Int32.ofNat_sub _ _ (by omega), if_pos ((pq_lt (by omega) (by omega)).mpr (by omega))]
  · rw [if_neg hc, if_neg]
    rw [Int32.lt_iff_toInt_lt, pq_ti (by omega), Int32.toInt_sub, pq_ti (by omega), pq_ti (by omega)]
    rw [Int.bmod_eq_of_le (by omega) (by omega)]
    omega
/-- the class: an emptied barrel, what is taken out -/
theorem q0_em {S : Nat → Prop} (h : pq_S σ c g S) (hb : b < 8) : ∃ s, f_X0_makeEmpty rf (c + 7 + b) σ = some ((), s) ∧ pq_S s c (pq_em g b) S ∧ ∀ a, a ≠ c + 7 + b → s a = σ a := by
  refine ⟨rc_up (rc_up (rc_up (rc_up (rc_up σ (c + 7 + b) 1 0) (c + 7 + b) 2 0) (c + 7 + b) 3 (-1)) (c + 7 + b) 4 0) (c + 7 + b) 5 0, ?_, fun i hi hS => pq_Sb4 (pq_Sb5 (pq_Sb3 (pq_Sb2 (pq_Sb1 h hb 0) hb 0) hb (-1)) hb 0) hb 0 i hi (Or.inl (Or.inl (Or.inl (Or.inl (Or.inl hS))))), fun a ha => by simp only [pq_upN ha]⟩
  simp only [f_X0_makeEmpty, rc_lt]
theorem q0_go {S : Nat → Prop} (h : pq_S σ c g S) (hb : b < 8) (hl0 : 0 ≤ (g (16 + 6 * b)).toInt) (hS1 : S (16 + 6 * b)) (hS2 : S (17 + 6 * b)) {u : Int32} : ∃ s, f_X0_takeOut rf (c + 7 + b) u σ = some (pq_hi g b u, s) ∧ pq_S s c (pq_go g b u (pq_hi g b u)) S ∧ ∀ a, a ≠ c + 7 + b → s a = σ a := by
  have v1 : σ (c + 7 + b) 1 = g (16 + 6 * b) := by
    have e := h (15 + 6 * b + 1) (by omega) (by rw [show 15 + 6 * b + 1 = 16 + 6 * b by omega]; exact hS1)
    rw [(pq_adb hb (by omega)).1, (pq_adb hb (by omega)).2, ← Nat.add_assoc, show 15 + 6 * b + 1 = 16 + 6 * b by omega] at e; exact e
  have v2 : σ (c + 7 + b) 2 = g (17 + 6 * b) := by
    have e := h (15 + 6 * b + 2) (by omega) (by rw [show 15 + 6 * b + 2 = 17 + 6 * b by omega]; exact hS2)
    rw [(pq_adb hb (by omega)).1, (pq_adb hb (by omega)).2, ← Nat.add_assoc, show 15 + 6 * b + 2 = 17 + 6 * b by omega] at e; exact e
  have hi : f_X0_hailIn rf (c + 7 + b) u σ = some (pq_hi g b u, σ) := by
    rw [q0_hailIn (by rw [v1]; exact hl0), v1, v2]; rfl
  have hS' : pq_S (rc_up (rc_up σ (c + 7 + b) 1 (g (16 + 6 * b) - u)) (c + 7 + b) 2 (g (17 + 6 * b) - pq_hi g b u)) c (upd (upd g (16 + 6 * b) (g (16 + 6 * b) - u)) (17 + 6 * b) (g (17 + 6 * b) - pq_hi g b u)) S := fun i hi hS => pq_Sb2 (pq_Sb1 h hb _) hb _ i hi (Or.inl (Or.inl hS))
  obtain ⟨s1, e1, r1, f1⟩ := q0_em (rf := rf) hS' hb
  by_cases hc : g (16 + 6 * b) - u = 0
  · refine ⟨s1, ?_, ?_, fun a ha => by rw [f1 a ha, pq_upN ha, pq_upN ha]⟩
    · rw [hc] at e1
      simp (disch := omega) only [f_X0_takeOut, hi, pq_bd, rc_lt, v1, v2, pq_upE, pq_udE, pq_udN, hc, if_true]
      rw [e1, pq_bd]
    · rw [pq_go, if_pos hc]; exact r1
  · refine ⟨rc_up (rc_up σ (c + 7 + b) 1 (g (16 + 6 * b) - u)) (c + 7 + b) 2 (g (17 + 6 * b) - pq_hi g b u), ?_, ?_, fun a ha => by rw [pq_upN ha, pq_upN ha]⟩
    · simp (disch := omega) only [f_X0_takeOut, hi, pq_bd, rc_lt, v1, v2, pq_upE, pq_udE, pq_udN, hc, if_false]
    · rw [pq_go, if_neg hc]; exact hS'
theorem pq_emN (j : Nat) (h : j < 16 + 6 * b ∨ 21 + 6 * b ≤ j) : pq_em g b j = g j := by
  unfold pq_em
  simp (disch := omega) only [pq_udN]
theorem pq_emE : pq_em g b (16 + 6 * b) = 0 ∧ pq_em g b (17 + 6 * b) = 0 ∧ pq_em g b (18 + 6 * b) = -1 ∧ pq_em g b (19 + 6 * b) = 0 ∧ pq_em g b (20 + 6 * b) = 0 := by
  unfold pq_em
  refine ⟨?_, ?_, ?_, ?_, ?_⟩ <;> simp (disch := omega) only [pq_udN, pq_udE]
theorem pq_goN {u hl : Int32} (j : Nat) (h : j < 16 + 6 * b ∨ 21 + 6 * b ≤ j) : pq_go g b u hl j = g j := by
  unfold pq_go
  split
  · rw [pq_emN j h]; simp (disch := omega) only [pq_udN]
  · simp (disch := omega) only [pq_udN]
theorem pq_goU {u hl v : Int32} (i : Nat) (h : i < 16 + 6 * b ∨ 21 + 6 * b ≤ i) : pq_go (upd g i v) b u hl = upd (pq_go g b u hl) i v := by
  unfold pq_go pq_em
  rw [pq_udN (show 16 + 6 * b ≠ i by omega), pq_udN (show 17 + 6 * b ≠ i by omega)]
  split
  all_goals
    funext j
    simp only [upd]
    repeat' split
    all_goals first | rfl | omega
theorem pq_emC {A B : Nat → Int32} (h : ∀ j, (j < 16 + 6 * b ∨ 21 + 6 * b ≤ j) → A j = B j) : pq_em A b = pq_em B b := by
  funext j
  by_cases hj : j < 16 + 6 * b ∨ 21 + 6 * b ≤ j
  · rw [pq_emN j hj, pq_emN j hj, h j hj]
  · have zA := pq_emE (g := A) (b := b)
    have zB := pq_emE (g := B) (b := b)
    have : j = 16 + 6 * b ∨ j = 17 + 6 * b ∨ j = 18 + 6 * b ∨ j = 19 + 6 * b ∨ j = 20 + 6 * b := by omega
    rcases this with e | e | e | e | e <;> subst e
    · rw [zA.1, zB.1]
    · rw [zA.2.1, zB.2.1]
    · rw [zA.2.2.1, zB.2.2.1]
    · rw [zA.2.2.2.1, zB.2.2.2.1]
    · rw [zA.2.2.2.2, zB.2.2.2.2]
theorem pq_hiU {u v : Int32} (i : Nat) (h : i < 16 + 6 * b ∨ 21 + 6 * b ≤ i) : pq_hi (upd g i v) b u = pq_hi g b u := by
  unfold pq_hi pq_P
  rw [pq_udN (show 16 + 6 * b ≠ i by omega), pq_udN (show 17 + 6 * b ≠ i by omega)]
theorem pq_NU {k v : Int32} (i : Nat) (h : i ≠ 3 ∧ (i < 16 + 6 * b ∨ 21 + 6 * b ≤ i)) : pq_N (upd g i v) b k = pq_N g b k := by
  unfold pq_N
  rw [pq_udN (show 16 + 6 * b ≠ i by omega), pq_udN (show 17 + 6 * b ≠ i by omega), pq_udN (show 19 + 6 * b ≠ i by omega), pq_udN (show 20 + 6 * b ≠ i by omega), pq_udN (show 3 ≠ i by omega)]
/-- the barrel is sound after that -/
theorem pq_goV {y : Int32} {L H U W N : Nat} {hl : Int32} (hB : pq_vB y (g (15 + 6 * b)) (g (16 + 6 * b)) (g (17 + 6 * b)) (g (18 + 6 * b)) (g (19 + 6 * b)) (g (20 + 6 * b)) N) (hy : 0 ≤ y.toInt) (h1 : H ≤ L) (h2 : L ≤ 20) (h3 : U ≤ L) (h0 : L ≠ 0) (w1 : W ≤ H) (w2 : U + H ≤ L + W) (e1 : g (17 + 6 * b) = Int32.ofNat H) (e2 : g (16 + 6 * b) = Int32.ofNat L) (e3 : hl = Int32.ofNat W) :
    pq_vB y (pq_go g b (Int32.ofNat U) hl (15 + 6 * b)) (pq_go g b (Int32.ofNat U) hl (16 + 6 * b)) (pq_go g b (Int32.ofNat U) hl (17 + 6 * b)) (pq_go g b (Int32.ofNat U) hl (18 + 6 * b)) (pq_go g b (Int32.ofNat U) hl (19 + 6 * b)) (pq_go g b (Int32.ofNat U) hl (20 + 6 * b)) N := by
  have eL : g (16 + 6 * b) - Int32.ofNat U = Int32.ofNat (L - U) := by rw [e2, Int32.ofNat_sub _ _ h3]
  have eH : g (17 + 6 * b) - hl = Int32.ofNat (H - W) := by rw [e1, e3, Int32.ofNat_sub _ _ w1]
  have hLz : g (16 + 6 * b) ≠ 0 := fun q => h0 (by rw [e2] at q; exact (pq_eq (by omega) (show 0 < 2147483648 by decide)).mp q)
  rw [pq_goN (15 + 6 * b) (by omega)]
  unfold pq_go
  rw [eL, eH]
  by_cases hc : Int32.ofNat (L - U) = 0
  · rw [if_pos hc]
    have z := pq_emE (g := upd (upd g (16 + 6 * b) (Int32.ofNat (L - U))) (17 + 6 * b) (Int32.ofNat (H - W))) (b := b)
    rw [z.1, z.2.1, z.2.2.1, z.2.2.2.1, z.2.2.2.2]
    exact ⟨hB.1, by decide, ⟨by decide, by rw [show (-1 : Int32).toInt = -1 from rfl]; omega⟩, by decide, ⟨by decide, by rw [Int32.toInt_zero]; exact hy⟩, fun _ => ⟨rfl, rfl, rfl, rfl⟩, fun q => absurd rfl q⟩
  · rw [if_neg hc]
    simp (disch := omega) only [pq_udN, pq_udE]
    refine ⟨hB.1, ⟨?_, ?_, ?_⟩, hB.2.2.1, hB.2.2.2.1, hB.2.2.2.2.1, fun q => absurd q hc, fun _ => hB.2.2.2.2.2.2 hLz⟩
    · rw [pq_ti (by omega)]; omega
    · rw [pq_ti (by omega), pq_ti (by omega)]; omega
    · rw [pq_ti (by omega)]; omega

end PQOP2

section PQOP3
variable {rf : rc_F} {x c m : Nat} {σ : rc_S} {g : Nat → Int32} {n p N b : Nat}
/-! a year goes by -/
def pq_mg (f : Int32 → Int32) : Nat → Nat → (Nat → Int32) → Nat → Int32
  | _, 0, g => g
  | i, d + 1, g => pq_mg f (i + 1) d (upd g (11 + i) (f (g (11 + i))))
theorem pq_mgE {f : Int32 → Int32} : ∀ (d i : Nat) (g : Nat → Int32) (j : Nat), pq_mg f i d g j = if 11 + i ≤ j ∧ j < 11 + i + d then f (g j) else g j := by
  intro d
  induction d with
  | zero => intro i g j; rw [pq_mg, if_neg (by omega)]
  | succ d ih =>
    intro i g j
    rw [pq_mg, ih]
    by_cases e : j = 11 + i
    · subst e
      rw [if_neg (by omega), if_pos (by omega), pq_udE]
    · rw [pq_udN e]
      by_cases h : 11 + (i + 1) ≤ j ∧ j < 11 + (i + 1) + d
      · rw [if_pos h, if_pos (by omega)]
      · rw [if_neg h, if_neg (by omega)]
def pq_yr (v : Int32) : Int32 := if 9 < v + 1 then 9 else v + 1
theorem qo_y7 (hX : pq_X rf x) (v1 : Int32) {S : Nat → Prop} (hS : ∀ r, r < 4 → S (11 + r)) : ∀ (d fu i : Nat) (σ : rc_S) (g : Nat → Int32), i + d = 4 → pq_S σ (x + 2) g S → ∃ s, (∀ K : Int32 → rc_S → Option (Int32 × rc_S), f_X7_letYearGoBy_10 rf (x + 1) v1 K (fu + d + 1) (Int32.ofNat i) σ = K (Int32.ofNat 4) s) ∧ pq_S s (x + 2) (pq_mg pq_yr i d g) S ∧ ∀ a, a ≠ x + 2 + 1 → s a = σ a := by
  have hK := pq_xk hX
  intro d
  induction d with
  | zero =>
    intro fu i σ g h hs
    have hi : i = 4 := by omega
    subst hi
    exact ⟨σ, fun K => by rw [f_X7_letYearGoBy_10, if_pos (by decide)], hs, fun _ _ => rfl⟩
  | succ d ih =>
    intro fu i σ g h hs
    have hni : (4 ≤ i) = False := by simp; omega
    have hv : σ (x + 2 + 1) i = g (11 + i) := by
      have e := hs (11 + i) (by omega) (hS i (by omega))
      rw [(pq_adm (by omega)).1, (pq_adm (by omega)).2] at e; exact e
    obtain ⟨s, e1, e2, e3⟩ := ih fu (i + 1) (rc_up σ (x + 2 + 1) i (pq_yr (g (11 + i)))) (upd g (11 + i) (pq_yr (g (11 + i)))) (by omega) (fun j hj hS2 => pq_Sm hs (by omega) _ j hj (Or.inl hS2))
    refine ⟨s, fun K => ?_, e2, fun a ha => by rw [e3 a ha, pq_upN ha]⟩
    rw [show fu + (d + 1) + 1 = (fu + d + 1) + 1 from rfl, f_X7_letYearGoBy_10]
    simp (disch := omega) only [pq_le4, hni, if_false, pq_in, pq_ck, pq_cl, pq_w0 hX, pq_k0 hK, rc_lt, pq_s, hv]
    exact e1 K
theorem qo_l7 (hK : pq_K rf c) (hp : p ≤ 4) : ∀ (d fu i : Nat) (σ : rc_S), i + d + 1 = p → σ (c + 3) 2 = Int32.ofNat p → ∃ s, (∀ K : Int32 → rc_S → Option (Unit × rc_S), f_X3_remove_2 rf (c + 3) K (fu + d + 1) (Int32.ofNat i) σ = K (Int32.ofNat (p - 1)) s) ∧ (∀ a, a ≠ c + 4 → a ≠ c + 5 → s a = σ a) ∧ (∀ k, i ≤ k → k < p - 1 → s (c + 4) k = σ (c + 4) (k + 1) ∧ s (c + 5) k = vp_nar .boolean (σ (c + 5) (k + 1))) ∧ ∀ k, (k < i ∨ p - 1 ≤ k) → s (c + 4) k = σ (c + 4) k ∧ s (c + 5) k = σ (c + 5) k := by
  intro d
  induction d with
  | zero =>
    intro fu i σ h hc
    have hi : i = p - 1 := by omega
    subst hi
    refine ⟨σ, fun K => ?_, fun _ _ _ => rfl, fun k k1 k2 => by omega, fun _ _ => ⟨rfl, rfl⟩⟩
    rw [f_X3_remove_2, hc, pq_s, show p - 1 + 1 = p by omega, if_pos (Int32.le_refl _)]
  | succ d ih =>
    intro fu i σ h hc
    have hni : ¬ Int32.ofNat p ≤ Int32.ofNat (i + 1) := fun q => by have := (pq_le (by omega) (by omega)).mp q; omega
    obtain ⟨s, e1, e2, e3, e4⟩ := ih fu (i + 1) (rc_up (rc_up σ (c + 4) i (σ (c + 4) (i + 1))) (c + 5) i (vp_nar .boolean (σ (c + 5) (i + 1)))) (by omega) (by rw [pq_upN (by omega), pq_upN (by omega)]; exact hc)
    refine ⟨s, fun K => ?_, fun a a1 a2 => by rw [e2 a a1 a2, pq_upN a2, pq_upN a1], fun k k1 k2 => ?_, fun k hk => ?_⟩
    · rw [show fu + (d + 1) + 1 = (fu + d + 1) + 1 from rfl, f_X3_remove_2, hc, pq_s, if_neg hni]
      simp (disch := omega) only [pq_in, pq_ck, pq_cl, pq_kp hK, pq_ks hK, rc_lt, pq_upN]
      exact e1 K
    · by_cases e : k = i
      · subst e
        have q := e4 k (by omega)
        rw [q.1, q.2, pq_upN (by omega), pq_upE, pq_udE, pq_upE, pq_udE]
        exact ⟨rfl, rfl⟩
      · have q := e3 k (by omega) k2
        rw [q.1, q.2, pq_upN (by omega), pq_upE, pq_udN (by omega), pq_upE, pq_udN (by omega), pq_upN (by omega)]
        exact ⟨rfl, rfl⟩
    · have q := e4 k (by omega)
      rw [q.1, q.2, pq_upN (by omega), pq_upE, pq_udN (by omega), pq_upE, pq_udN (by omega), pq_upN (by omega)]
      exact ⟨rfl, rfl⟩
def pq_lg (g : Nat → Int32) (p j : Nat) : Nat → Int32 := fun i => if i = 1 then Int32.ofNat (p - 1) else if i = 63 + 2 * (p - 1) ∨ i = 64 + 2 * (p - 1) then 0 else if 63 + 2 * j ≤ i ∧ i < 63 + 2 * (p - 1) then g (i + 2) else g i
theorem qo_t7 (hK : pq_K rf c) (hn : n ≤ 8) : ∀ (d fu i : Nat) (σ : rc_S), i + d + 1 = n → σ c 2 = Int32.ofNat n → ∃ s, (∀ K : Int32 → rc_S → Option (Unit × rc_S), f_X1_dropBarrel_2 rf c K (fu + d + 1) (Int32.ofNat i) σ = K (Int32.ofNat (n - 1)) s) ∧ (∀ a, (a < c + 7 + i ∨ c + 7 + (n - 1) ≤ a) → s a = σ a) ∧ ∀ k, i ≤ k → k < n - 1 → ∀ z, z < 6 → s (c + 7 + k) z = σ (c + 7 + (k + 1)) z := by
  intro d
  induction d with
  | zero =>
    intro fu i σ h hc
    have hi : i = n - 1 := by omega
    subst hi
    refine ⟨σ, fun K => ?_, fun _ _ => rfl, fun k k1 k2 => by omega⟩
    rw [f_X1_dropBarrel_2, hc, pq_s, show n - 1 + 1 = n by omega, if_pos (Int32.le_refl _)]
  | succ d ih =>
    intro fu i σ h hc
    have hni : ¬ Int32.ofNat n ≤ Int32.ofNat (i + 1) := fun q => by have := (pq_le (by omega) (by omega)).mp q; omega
    obtain ⟨s1, f1, f2, f3⟩ := qc_b (rf := rf) (σ := σ) (a := c + 7 + i) (b := c + 7 + (i + 1)) (by omega)
    obtain ⟨s, e1, e2, e3⟩ := ih fu (i + 1) s1 (by omega) (by rw [f2 _ (by omega)]; exact hc)
    refine ⟨s, fun K => ?_, fun a ha => by rw [e2 a (by omega), f2 a (by omega)], fun k k1 k2 z hz => ?_⟩
    · rw [show fu + (d + 1) + 1 = (fu + d + 1) + 1 from rfl, f_X1_dropBarrel_2, hc, pq_s, if_neg hni]
      simp (disch := omega) only [pq_in, pq_ck, pq_cl, pq_k1 hK, pq_kb hK, rc_lt, pq_bd, f1]
      exact e1 K
    · by_cases e : k = i
      · subst e
        rw [e2 _ (by omega), f3 z hz]
      · rw [e3 k (by omega) k2 z hz, f2 _ (by omega)]
def pq_tg (g : Nat → Int32) (n b : Nat) : Nat → Int32 := fun i => if i = 0 then Int32.ofNat (n - 1) else if 15 + 6 * (n - 1) ≤ i ∧ i < 15 + 6 * (n - 1) + 6 then 0 else if 15 + 6 * b ≤ i ∧ i < 15 + 6 * (n - 1) then g (i + 6) else g i
end PQOP3

