/-! where the reference's number i lies in a cellar of the class -/
def pq_ad (i : Nat) : Nat := if i = 1 then 3 else if i < 11 then 0 else if i < 15 then 1 else if i < 63 then 7 + (i - 15) / 6 else if i < 71 then 4 + (i - 63) % 2 else 15 + (i - 71) / 3
def pq_sl (i : Nat) : Nat := if i < 11 then [2, 2, 6, 7, 5, 8, 9, 10, 11, 12, 13].getD i 0 else if i < 15 then i - 11 else if i < 63 then [0, 1, 2, 3, 5, 4].getD ((i - 15) % 6) 0 else if i < 71 then (i - 63) / 2 else (i - 71) % 3
def pq_lv (n p i : Nat) : Prop := i < 15 ∨ (15 ≤ i ∧ i < 15 + 6 * n) ∨ (63 ≤ i ∧ i < 63 + 2 * p) ∨ (71 ≤ i ∧ i < 107)
theorem pq_inj : ∀ i, i < 107 → ∀ j, j < 107 → j ≠ i → ¬ (pq_ad j = pq_ad i ∧ pq_sl j = pq_sl i) := by decide +kernel
theorem pq_adl : ∀ i, i < 107 → pq_ad i < 27 := by decide +kernel
theorem pq_adb {b k : Nat} (hb : b < 8) (hk : k < 6) : pq_ad (15 + 6 * b + k) = 7 + b ∧ pq_sl (15 + 6 * b + k) = [0, 1, 2, 3, 5, 4].getD k 0 := by
  unfold pq_ad pq_sl
  rw [if_neg (by omega), if_neg (by omega), if_neg (by omega), if_pos (by omega), if_neg (by omega), if_neg (by omega), if_pos (by omega), show (15 + 6 * b + k - 15) / 6 = b by omega, show (15 + 6 * b + k - 15) % 6 = k by omega]
  exact ⟨rfl, rfl⟩
theorem pq_adp {j k : Nat} (hj : j < 4) (hk : k < 2) : pq_ad (63 + 2 * j + k) = 4 + k ∧ pq_sl (63 + 2 * j + k) = j := by
  unfold pq_ad pq_sl
  rw [if_neg (by omega), if_neg (by omega), if_neg (by omega), if_neg (by omega), if_pos (by omega), if_neg (by omega), if_neg (by omega), if_neg (by omega), if_pos (by omega)]
  omega
theorem pq_adq {q k : Nat} (hq : q < 12) (hk : k < 3) : pq_ad (71 + 3 * q + k) = 15 + q ∧ pq_sl (71 + 3 * q + k) = k := by
  unfold pq_ad pq_sl
  rw [if_neg (by omega), if_neg (by omega), if_neg (by omega), if_neg (by omega), if_neg (by omega), if_neg (by omega), if_neg (by omega), if_neg (by omega), if_neg (by omega)]
  omega
theorem pq_adm {r : Nat} (hr : r < 4) : pq_ad (11 + r) = 1 ∧ pq_sl (11 + r) = r := by
  unfold pq_ad pq_sl
  rw [if_neg (by omega), if_neg (by omega), if_pos (by omega), if_neg (by omega), if_pos (by omega)]
  omega
/-- of which numbers the two agree -/
def pq_S (σ : rc_S) (c : Nat) (g : Nat → Int32) (S : Nat → Prop) : Prop := ∀ i, i < 107 → S i → σ (c + pq_ad i) (pq_sl i) = g i
section PQS
variable {σ : rc_S} {c n p : Nat} {g : Nat → Int32} {S : Nat → Prop}
theorem pq_RS (h : pq_R σ c g n p) (hn : n ≤ 8) (hp : p ≤ 4) : pq_S σ c g (pq_lv n p) := by
  intro i hi hl
  obtain ⟨⟨h0, h1, h2, h3, h4, h5, h6, h7, h8, h9, h10⟩, hm, hb, hq, hr⟩ := h
  by_cases i11 : i < 11
  · match i, i11 with
    | 0, _ => exact h0
    | 1, _ => exact h1
    | 2, _ => exact h2
    | 3, _ => exact h3
    | 4, _ => exact h4
    | 5, _ => exact h5
    | 6, _ => exact h6
    | 7, _ => exact h7
    | 8, _ => exact h8
    | 9, _ => exact h9
    | 10, _ => exact h10
    | k + 11, hk => omega
  · by_cases i15 : i < 15
    · obtain ⟨r, hr4, rfl⟩ : ∃ r, r < 4 ∧ i = 11 + r := ⟨i - 11, by omega, by omega⟩
      rw [(pq_adm hr4).1, (pq_adm hr4).2]; exact hm r hr4
    · by_cases i63 : i < 63
      · obtain ⟨b, k, hb8, hk6, rfl⟩ : ∃ b k, b < n ∧ k < 6 ∧ i = 15 + 6 * b + k := ⟨(i - 15) / 6, (i - 15) % 6, by unfold pq_lv at hl; omega, by omega, by omega⟩
        have q := hb b hb8
        rw [(pq_adb (by omega) hk6).1, (pq_adb (by omega) hk6).2, ← Nat.add_assoc]
        match k, hk6 with
        | 0, _ => exact q.1
        | 1, _ => rw [show 15 + 6 * b + 1 = 16 + 6 * b by omega]; exact q.2.1
        | 2, _ => rw [show 15 + 6 * b + 2 = 17 + 6 * b by omega]; exact q.2.2.1
        | 3, _ => rw [show 15 + 6 * b + 3 = 18 + 6 * b by omega]; exact q.2.2.2.1
        | 4, _ => rw [show 15 + 6 * b + 4 = 19 + 6 * b by omega]; exact q.2.2.2.2.1
        | 5, _ => rw [show 15 + 6 * b + 5 = 20 + 6 * b by omega]; exact q.2.2.2.2.2
        | k + 6, hk => omega
      · by_cases i71 : i < 71
        · obtain ⟨j, k, hj, hk2, rfl⟩ : ∃ j k, j < p ∧ k < 2 ∧ i = 63 + 2 * j + k := ⟨(i - 63) / 2, (i - 63) % 2, by unfold pq_lv at hl; omega, by omega, by omega⟩
          have q := hq j hj
          rw [(pq_adp (by omega) hk2).1, (pq_adp (by omega) hk2).2]
          match k, hk2 with
          | 0, _ => exact q.1
          | 1, _ => rw [show 63 + 2 * j + 1 = 64 + 2 * j by omega]; exact q.2
          | k + 2, hk => omega
        · obtain ⟨s, k, hs, hk3, rfl⟩ : ∃ s k, s < 12 ∧ k < 3 ∧ i = 71 + 3 * s + k := ⟨(i - 71) / 3, (i - 71) % 3, by omega, by omega, by omega⟩
          have q := hr s hs
          rw [(pq_adq hs hk3).1, (pq_adq hs hk3).2, ← Nat.add_assoc]
          match k, hk3 with
          | 0, _ => exact q.1
          | 1, _ => rw [show 71 + 3 * s + 1 = 72 + 3 * s by omega]; exact q.2.1
          | 2, _ => rw [show 71 + 3 * s + 2 = 73 + 3 * s by omega]; exact q.2.2
          | k + 3, hk => omega
theorem pq_SR (h : pq_S σ c g S) (hn : n ≤ 8) (hp : p ≤ 4) (hS : ∀ i, i < 107 → pq_lv n p i → S i) : pq_R σ c g n p := by
  have e : ∀ i, i < 107 → pq_lv n p i → σ (c + pq_ad i) (pq_sl i) = g i := fun i hi hl => h i hi (hS i hi hl)
  refine ⟨⟨e 0 (by omega) (Or.inl (by omega)), e 1 (by omega) (Or.inl (by omega)), e 2 (by omega) (Or.inl (by omega)), e 3 (by omega) (Or.inl (by omega)), e 4 (by omega) (Or.inl (by omega)), e 5 (by omega) (Or.inl (by omega)), e 6 (by omega) (Or.inl (by omega)), e 7 (by omega) (Or.inl (by omega)), e 8 (by omega) (Or.inl (by omega)), e 9 (by omega) (Or.inl (by omega)), e 10 (by omega) (Or.inl (by omega))⟩, fun r hr => ?_, fun b hb => ?_, fun j hj => ?_, fun q hq => ?_⟩
  · have := e (11 + r) (by omega) (Or.inl (by omega))
    rw [(pq_adm hr).1, (pq_adm hr).2] at this; exact this
  · have f := fun k (hk : k < 6) => e (15 + 6 * b + k) (by omega) (Or.inr (Or.inl (by omega)))
    have g := fun k (hk : k < 6) => pq_adb (b := b) (k := k) (by omega) hk
    have f0 := f 0 (by omega); have f1 := f 1 (by omega); have f2 := f 2 (by omega); have f3 := f 3 (by omega); have f4 := f 4 (by omega); have f5 := f 5 (by omega)
    rw [(g 0 (by omega)).1, (g 0 (by omega)).2, ← Nat.add_assoc] at f0
    rw [(g 1 (by omega)).1, (g 1 (by omega)).2, ← Nat.add_assoc, show 15 + 6 * b + 1 = 16 + 6 * b by omega] at f1
    rw [(g 2 (by omega)).1, (g 2 (by omega)).2, ← Nat.add_assoc, show 15 + 6 * b + 2 = 17 + 6 * b by omega] at f2
    rw [(g 3 (by omega)).1, (g 3 (by omega)).2, ← Nat.add_assoc, show 15 + 6 * b + 3 = 18 + 6 * b by omega] at f3
    rw [(g 4 (by omega)).1, (g 4 (by omega)).2, ← Nat.add_assoc, show 15 + 6 * b + 4 = 19 + 6 * b by omega] at f4
    rw [(g 5 (by omega)).1, (g 5 (by omega)).2, ← Nat.add_assoc, show 15 + 6 * b + 5 = 20 + 6 * b by omega] at f5
    exact ⟨f0, f1, f2, f3, f4, f5⟩
  · have f0 := e (63 + 2 * j + 0) (by omega) (Or.inr (Or.inr (Or.inl (by omega))))
    have f1 := e (63 + 2 * j + 1) (by omega) (Or.inr (Or.inr (Or.inl (by omega))))
    rw [(pq_adp (by omega) (by omega)).1, (pq_adp (by omega) (by omega)).2] at f0 f1
    rw [show 63 + 2 * j + 1 = 64 + 2 * j by omega] at f1
    exact ⟨f0, f1⟩
  · have f := fun k (hk : k < 3) => e (71 + 3 * q + k) (by omega) (Or.inr (Or.inr (Or.inr (by omega))))
    have f0 := f 0 (by omega); have f1 := f 1 (by omega); have f2 := f 2 (by omega)
    rw [(pq_adq hq (by omega)).1, (pq_adq hq (by omega)).2, ← Nat.add_assoc] at f0 f1 f2
    rw [show 71 + 3 * q + 1 = 72 + 3 * q by omega] at f1
    rw [show 71 + 3 * q + 2 = 73 + 3 * q by omega] at f2
    exact ⟨f0, f1, f2⟩
theorem pq_Su (h : pq_S σ c g S) {i a s : Nat} (hi : i < 107) (ha : a = c + pq_ad i) (hs : s = pq_sl i) (v : Int32) : pq_S (rc_up σ a s v) c (upd g i v) (fun j => S j ∨ j = i) := by
  intro j hj hS
  subst ha
  subst hs
  by_cases e : j = i
  · subst e; rw [pq_upE, pq_udE, pq_udE]
  · rw [pq_udN e]
    have hS2 : S j := by rcases hS with q | q; exact q; exact absurd q e
    have hne := pq_inj i hi j hj e
    by_cases e2 : c + pq_ad j = c + pq_ad i
    · rw [e2, pq_upE, pq_udN (fun q => hne ⟨by omega, q⟩), ← e2]; exact h j hj hS2
    · rw [pq_upN e2]; exact h j hj hS2
theorem pq_Sub (h : pq_S σ c g S) {b : Nat} (hb : b < 8) (k : Nat) (hk : k < 6) (v : Int32) : pq_S (rc_up σ (c + 7 + b) ([0, 1, 2, 3, 5, 4].getD k 0) v) c (upd g (15 + 6 * b + k) v) (fun j => S j ∨ j = 15 + 6 * b + k) :=
  pq_Su h (by omega) (by rw [(pq_adb hb hk).1]; omega) (by rw [(pq_adb hb hk).2]) v

theorem pq_Sb0 (h : pq_S σ c g S) {b : Nat} (hb : b < 8) (v : Int32) : pq_S (rc_up σ (c + 7 + b) 0 v) c (upd g (15 + 6 * b) v) (fun j => S j ∨ j = 15 + 6 * b) := by
  have e := pq_Sub h hb 0 (by omega) v
  rw [show 15 + 6 * b + 0 = 15 + 6 * b by omega] at e
  exact e
theorem pq_Sb1 (h : pq_S σ c g S) {b : Nat} (hb : b < 8) (v : Int32) : pq_S (rc_up σ (c + 7 + b) 1 v) c (upd g (16 + 6 * b) v) (fun j => S j ∨ j = 16 + 6 * b) := by
  have e := pq_Sub h hb 1 (by omega) v
  rw [show 15 + 6 * b + 1 = 16 + 6 * b by omega] at e
  exact e
theorem pq_Sb2 (h : pq_S σ c g S) {b : Nat} (hb : b < 8) (v : Int32) : pq_S (rc_up σ (c + 7 + b) 2 v) c (upd g (17 + 6 * b) v) (fun j => S j ∨ j = 17 + 6 * b) := by
  have e := pq_Sub h hb 2 (by omega) v
  rw [show 15 + 6 * b + 2 = 17 + 6 * b by omega] at e
  exact e
theorem pq_Sb3 (h : pq_S σ c g S) {b : Nat} (hb : b < 8) (v : Int32) : pq_S (rc_up σ (c + 7 + b) 3 v) c (upd g (18 + 6 * b) v) (fun j => S j ∨ j = 18 + 6 * b) := by
  have e := pq_Sub h hb 3 (by omega) v
  rw [show 15 + 6 * b + 3 = 18 + 6 * b by omega] at e
  exact e
theorem pq_Sb4 (h : pq_S σ c g S) {b : Nat} (hb : b < 8) (v : Int32) : pq_S (rc_up σ (c + 7 + b) 5 v) c (upd g (19 + 6 * b) v) (fun j => S j ∨ j = 19 + 6 * b) := by
  have e := pq_Sub h hb 4 (by omega) v
  rw [show 15 + 6 * b + 4 = 19 + 6 * b by omega] at e
  exact e
theorem pq_Sb5 (h : pq_S σ c g S) {b : Nat} (hb : b < 8) (v : Int32) : pq_S (rc_up σ (c + 7 + b) 4 v) c (upd g (20 + 6 * b) v) (fun j => S j ∨ j = 20 + 6 * b) := by
  have e := pq_Sub h hb 5 (by omega) v
  rw [show 15 + 6 * b + 5 = 20 + 6 * b by omega] at e
  exact e
theorem pq_Sc0 (h : pq_S σ c g S) (v : Int32) : pq_S (rc_up σ c 2 v) c (upd g 0 v) (fun j => S j ∨ j = 0) := pq_Su h (by decide) rfl rfl v
theorem pq_Sc1 (h : pq_S σ c g S) (v : Int32) : pq_S (rc_up σ (c + 3) 2 v) c (upd g 1 v) (fun j => S j ∨ j = 1) := pq_Su h (by decide) rfl rfl v
theorem pq_Sc2 (h : pq_S σ c g S) (v : Int32) : pq_S (rc_up σ c 6 v) c (upd g 2 v) (fun j => S j ∨ j = 2) := pq_Su h (by decide) rfl rfl v
theorem pq_Sc3 (h : pq_S σ c g S) (v : Int32) : pq_S (rc_up σ c 7 v) c (upd g 3 v) (fun j => S j ∨ j = 3) := pq_Su h (by decide) rfl rfl v
theorem pq_Sc4 (h : pq_S σ c g S) (v : Int32) : pq_S (rc_up σ c 5 v) c (upd g 4 v) (fun j => S j ∨ j = 4) := pq_Su h (by decide) rfl rfl v
theorem pq_Sc5 (h : pq_S σ c g S) (v : Int32) : pq_S (rc_up σ c 8 v) c (upd g 5 v) (fun j => S j ∨ j = 5) := pq_Su h (by decide) rfl rfl v
theorem pq_Sc6 (h : pq_S σ c g S) (v : Int32) : pq_S (rc_up σ c 9 v) c (upd g 6 v) (fun j => S j ∨ j = 6) := pq_Su h (by decide) rfl rfl v
theorem pq_Sc7 (h : pq_S σ c g S) (v : Int32) : pq_S (rc_up σ c 10 v) c (upd g 7 v) (fun j => S j ∨ j = 7) := pq_Su h (by decide) rfl rfl v
theorem pq_Sc8 (h : pq_S σ c g S) (v : Int32) : pq_S (rc_up σ c 11 v) c (upd g 8 v) (fun j => S j ∨ j = 8) := pq_Su h (by decide) rfl rfl v
theorem pq_Sc9 (h : pq_S σ c g S) (v : Int32) : pq_S (rc_up σ c 12 v) c (upd g 9 v) (fun j => S j ∨ j = 9) := pq_Su h (by decide) rfl rfl v
theorem pq_Sc10 (h : pq_S σ c g S) (v : Int32) : pq_S (rc_up σ c 13 v) c (upd g 10 v) (fun j => S j ∨ j = 10) := pq_Su h (by decide) rfl rfl v
theorem pq_Sm (h : pq_S σ c g S) {r : Nat} (hr : r < 4) (v : Int32) : pq_S (rc_up σ (c + 1) r v) c (upd g (11 + r) v) (fun j => S j ∨ j = 11 + r) := pq_Su h (by omega) (by rw [(pq_adm hr).1]) (by rw [(pq_adm hr).2]) v
theorem pq_Spp (h : pq_S σ c g S) {j : Nat} (hj : j < 4) (v : Int32) : pq_S (rc_up σ (c + 4) j v) c (upd g (63 + 2 * j) v) (fun i => S i ∨ i = 63 + 2 * j) := pq_Su h (by omega) (by have := (pq_adp hj (show 0 < 2 by omega)).1; rw [Nat.add_zero] at this; rw [this]) (by have := (pq_adp hj (show 0 < 2 by omega)).2; rw [Nat.add_zero] at this; rw [this]) v
theorem pq_Sps (h : pq_S σ c g S) {j : Nat} (hj : j < 4) (v : Int32) : pq_S (rc_up σ (c + 5) j v) c (upd g (64 + 2 * j) v) (fun i => S i ∨ i = 64 + 2 * j) := pq_Su h (by omega) (by have := (pq_adp hj (show 1 < 2 by omega)).1; rw [show 63 + 2 * j + 1 = 64 + 2 * j by omega] at this; rw [this]) (by have := (pq_adp hj (show 1 < 2 by omega)).2; rw [show 63 + 2 * j + 1 = 64 + 2 * j by omega] at this; rw [this]) v
theorem pq_Sq (h : pq_S σ c g S) {q : Nat} (hq : q < 12) (k : Nat) (hk : k < 3) (v : Int32) : pq_S (rc_up σ (c + 15 + q) k v) c (upd g (71 + 3 * q + k) v) (fun i => S i ∨ i = 71 + 3 * q + k) := pq_Su h (by omega) (by rw [(pq_adq hq hk).1]; omega) (by rw [(pq_adq hq hk).2]) v
end PQS
/-- what holds of one barrel's numbers -/
def pq_vB (y ro l h by_ t s : Int32) (N : Nat) : Prop := (0 ≤ ro.toInt ∧ ro.toInt ≤ 3) ∧ (0 ≤ h.toInt ∧ h.toInt ≤ l.toInt ∧ l.toInt ≤ 20) ∧ (-1 ≤ by_.toInt ∧ by_.toInt ≤ N) ∧ (0 ≤ t.toInt ∧ t.toInt ≤ 9) ∧ (0 ≤ s.toInt ∧ s.toInt ≤ y.toInt) ∧ (l = 0 → h = 0 ∧ by_ = -1 ∧ t = 0 ∧ s = 0) ∧ (l ≠ 0 → 0 ≤ by_.toInt)
theorem pq_VB {g : Nat → Int32} {n p N b : Nat} (h : pq_V g n p N) (hb : b < n) : pq_vB (g 3) (g (15 + 6 * b)) (g (16 + 6 * b)) (g (17 + 6 * b)) (g (18 + 6 * b)) (g (19 + 6 * b)) (g (20 + 6 * b)) N := h.2.2.2.2.2.2.1 b hb
/-- a new state's numbers hold what they must: from the old ones where they are the same -/
theorem pq_Vn {g g' : Nat → Int32} {n p N n' p' : Nat} (h : pq_V g n p N) (h0 : g' 0 = Int32.ofNat n' ∧ n' ≤ 8) (h1 : g' 1 = Int32.ofNat p' ∧ p' ≤ 4) (h2 : g' 2 = g 2 ∨ (0 ≤ (g' 2).toInt ∧ (g' 2).toInt ≤ 9)) (h3 : g' 3 = g 3 ∨ ((g 3).toInt ≤ (g' 3).toInt ∧ (g' 3).toInt ≤ N + 1)) (h4 : g' 4 = g 4 ∨ (0 ≤ (g' 4).toInt ∧ (g' 4).toInt ≤ N + 1))
    (hm : ∀ r, r < 4 → g' (11 + r) = g (11 + r) ∨ (0 ≤ (g' (11 + r)).toInt ∧ (g' (11 + r)).toInt ≤ 9))
    (hb : ∀ b, b < n' → (b < n ∧ ∀ k, k < 6 → g' (15 + 6 * b + k) = g (15 + 6 * b + k)) ∨ pq_vB (g' 3) (g' (15 + 6 * b)) (g' (16 + 6 * b)) (g' (17 + 6 * b)) (g' (18 + 6 * b)) (g' (19 + 6 * b)) (g' (20 + 6 * b)) (N + 1))
    (hp : ∀ j, j < p' → (j < p ∧ g' (63 + 2 * j) = g (63 + 2 * j) ∧ g' (64 + 2 * j) = g (64 + 2 * j)) ∨ ((0 ≤ (g' (63 + 2 * j)).toInt ∧ (g' (63 + 2 * j)).toInt ≤ 9) ∧ (g' (64 + 2 * j) = 0 ∨ g' (64 + 2 * j) = 1))) : pq_V g' n' p' (N + 1) := by
  have y3 : (g 3).toInt ≤ (g' 3).toInt := by rcases h3 with q | q; rw [q]; exact Int.le_refl _; exact q.1
  refine ⟨h0, h1, ?_, ⟨?_, ?_⟩, ?_, fun r hr => ?_, fun b hb' => ?_, fun j hj => ?_⟩
  · rcases h2 with q | q; rw [q]; exact pq_v2 h; exact q
  · have := (pq_v3 h).1; omega
  · rcases h3 with q | q; rw [q]; have := (pq_v3 h).2; omega; have := q.2; omega
  · rcases h4 with q | q; rw [q]; have := pq_v4 h; omega; exact ⟨q.1, by have := q.2; omega⟩
  · rcases hm r hr with q | q; rw [q]; exact pq_vm h hr; exact q
  · rcases hb b hb' with q | q
    · have e0 := q.2 0 (by omega); have e1 := q.2 1 (by omega); have e2 := q.2 2 (by omega); have e3 := q.2 3 (by omega); have e4 := q.2 4 (by omega); have e5 := q.2 5 (by omega)
      rw [show 15 + 6 * b + 1 = 16 + 6 * b by omega] at e1
      rw [show 15 + 6 * b + 2 = 17 + 6 * b by omega] at e2
      rw [show 15 + 6 * b + 3 = 18 + 6 * b by omega] at e3
      rw [show 15 + 6 * b + 4 = 19 + 6 * b by omega] at e4
      rw [show 15 + 6 * b + 5 = 20 + 6 * b by omega] at e5
      rw [Nat.add_zero] at e0
      have z := pq_VB h q.1
      rw [e0, e1, e2, e3, e4, e5]
      exact ⟨z.1, z.2.1, ⟨z.2.2.1.1, by have := z.2.2.1.2; omega⟩, z.2.2.2.1, ⟨z.2.2.2.2.1.1, Int.le_trans z.2.2.2.2.1.2 y3⟩, z.2.2.2.2.2.1, z.2.2.2.2.2.2⟩
    · exact q
  · rcases hp j hj with q | q
    · rw [q.2.1, q.2.2]; exact ⟨pq_vpp h q.1, pq_vps h q.1⟩
    · exact q
/-- one of the ten changes, both sides -/
def pq_Op (x : Nat) (A B : rc_S → Option (Int32 × rc_S)) : Prop := ∀ (σ : rc_S) (n p Bd : Nat) (g : Nat → Int32), pq_R σ (x + 2) g n p → pq_V g n p Bd → Bd ≤ 900 →
  (∃ code det, code ≠ 0 ∧ A σ = some (-1, rc_up (rc_up (rc_up σ (x + 29) 0 code) (x + 29) 1 det) (x + 29) 2 0) ∧ ∀ τ, τ (x + 308 + 1) = g → B τ = some (code, rc_up τ (x + 308) 16 det)) ∨
  (∃ v σ' g' n' p', v ≠ -1 ∧ A σ = some (v, σ') ∧ (∀ a, (a < x + 2 ∨ x + 29 ≤ a) → σ' a = σ a) ∧ pq_R σ' (x + 2) g' n' p' ∧ pq_V g' n' p' (Bd + 1) ∧ ∀ τ, τ (x + 308 + 1) = g → ∃ τ', B τ = some (0, τ') ∧ τ' (x + 308 + 1) = g' ∧ τ' (x + 308) 17 = v ∧ (∀ a, a ≠ x + 308 → a ≠ x + 308 + 1 → τ' a = τ a) ∧ ∀ j, j ≠ 17 → τ' (x + 308) j = τ (x + 308) j)
theorem q5_bec {rf : rc_F} {σ : rc_S} {a : Nat} {c d : Int32} : f_X5_because rf a c d σ = some (-1, rc_up (rc_up (rc_up σ a 0 c) a 1 d) a 2 0) := rfl
theorem q9_ref {rf : rc_F} {σ : rc_S} {m : Nat} {c d : Int32} : f_X9_refused rf m c d σ = some (c, rc_up σ m 16 d) := rfl
theorem q9_don {rf : rc_F} {σ : rc_S} {m : Nat} {v : Int32} : f_X9_done rf m v σ = some (0, rc_up σ m 17 v) := rfl
/-- the reference's end of a change: its row, its answer -/
theorem pq_fin {τ τ' : rc_S} {x : Nat} {g' : Nat → Int32} {v : Int32} (h1 : τ' (x + 308 + 1) = g') (h2 : ∀ a, a ≠ x + 308 + 1 → τ' a = τ a) : rc_up τ' (x + 308) 17 v (x + 308 + 1) = g' ∧ rc_up τ' (x + 308) 17 v (x + 308) 17 = v ∧ (∀ a, a ≠ x + 308 → a ≠ x + 308 + 1 → rc_up τ' (x + 308) 17 v a = τ a) ∧ ∀ j, j ≠ 17 → rc_up τ' (x + 308) 17 v (x + 308) j = τ (x + 308) j := by
  refine ⟨by rw [pq_upN (by omega)]; exact h1, by rw [pq_upE, pq_udE], fun a a1 a2 => by rw [pq_upN a1]; exact h2 a a2, fun j hj => by rw [pq_upE, pq_udN hj, h2 _ (by omega)]⟩
theorem pq_nn {v : Int32} (h : 0 ≤ v.toInt) : v ≠ -1 := fun q => by subst q; exact absurd h (by decide)
theorem pq_nnN {v : Nat} (h : v < 2147483648) : Int32.ofNat v ≠ -1 := pq_nn (by rw [pq_ti h]; omega)
section PQOP
variable {rf : rc_F} {x : Nat}

theorem qo_clear (hX : pq_X rf x) {u : Int32} : pq_Op x (f_X7_clearRoof rf (x + 1) u) (f_X9_clears rf (x + 308) u) := by
  intro σ n p Bd g hR hV hB
  have hK := pq_xk hX
  have hM := pq_xm hX
  have h8 := pq_vn hV
  have h4 := pq_vp hV
  have hS := pq_RS hR h8 h4
  by_cases h1 : ¬ u < 0 ∧ ¬ 3 < u
  · obtain ⟨i, hi, rfl⟩ := pq_4b h1
    by_cases h2 : g (11 + i) = 0
    · refine Or.inl ⟨12, Int32.ofNat i, by decide, ?_, fun τ hτ => ?_⟩
      · simp (disch := omega) only [f_X7_clearRoof, q8_out, q5_bec, pq_w0 hX, pq_w1 hX, pq_k0 hK, pq_k1 hK, pq_k3 hK, pq_k4 hK, pq_kp hK, pq_ks hK, pq_bd, pq_ck, pq_bx, rc_lt, pq_i10, pq_i01, not_false_eq_true, not_true_eq_false, and_self, and_true, true_and, and_false, false_and, or_true, true_or, or_false, false_or, if_true, if_false, ↓reduceIte, Decidable.not_not, ne_eq, Int32.reduceLE, Int32.reduceLT, pq_nes, eq_self, pq_in, pq_cl, h1, pq_cm hR, h2]
      · simp (disch := omega) only [f_X9_clears, q9_in, q9_ref, pq_m1 hM, hτ, pq_mx, pq_in, pq_cl, pq_bd, pq_ck, pq_bx, rc_lt, pq_i10, pq_i01, not_false_eq_true, not_true_eq_false, and_self, and_true, true_and, and_false, false_and, or_true, true_or, or_false, false_or, if_true, if_false, ↓reduceIte, Decidable.not_not, ne_eq, Int32.reduceLE, Int32.reduceLT, pq_nes, eq_self, h1, h2]
    · refine Or.inr ⟨g (11 + i), rc_up σ (x + 2 + 1) i 0, upd g (11 + i) 0, n, p, pq_nn (pq_vm hV hi).1, ?_, fun a ha => pq_upN (by omega), pq_SR (pq_Sm hS hi 0) h8 h4 (fun j hj hl => Or.inl hl), ?_, fun τ hτ => ⟨rc_up (rc_up τ (x + 308 + 1) (11 + i) 0) (x + 308) 17 (g (11 + i)), ?_, pq_fin (by rw [pq_upE, hτ]) (fun a ha => pq_upN ha)⟩⟩
      · simp (disch := omega) only [f_X7_clearRoof, q8_out, q5_bec, pq_w0 hX, pq_w1 hX, pq_k0 hK, pq_k1 hK, pq_k3 hK, pq_k4 hK, pq_kp hK, pq_ks hK, pq_bd, pq_ck, pq_bx, rc_lt, pq_i10, pq_i01, not_false_eq_true, not_true_eq_false, and_self, and_true, true_and, and_false, false_and, or_true, true_or, or_false, false_or, if_true, if_false, ↓reduceIte, Decidable.not_not, ne_eq, Int32.reduceLE, Int32.reduceLT, pq_nes, eq_self, pq_in, pq_cl, h1, pq_cm hR, h2]
      · refine pq_Vn hV ⟨by rw [pq_udN (by omega)]; exact pq_v0 hV, h8⟩ ⟨by rw [pq_udN (by omega)]; exact pq_v1 hV, h4⟩ (Or.inl (pq_udN (by omega))) (Or.inl (pq_udN (by omega))) (Or.inl (pq_udN (by omega))) (fun r hr => ?_) (fun b hb => Or.inl ⟨hb, fun k hk => pq_udN (by omega)⟩) (fun j hj => Or.inl ⟨hj, pq_udN (by omega), pq_udN (by omega)⟩)
        by_cases e : r = i
        · subst e; rw [pq_udE]; exact Or.inr (by decide)
        · exact Or.inl (pq_udN (by omega))
      · simp (disch := omega) only [f_X9_clears, q9_in, q9_ref, pq_m1 hM, hτ, pq_mx, pq_in, pq_cl, pq_bd, pq_ck, pq_bx, rc_lt, pq_i10, pq_i01, not_false_eq_true, not_true_eq_false, and_self, and_true, true_and, and_false, false_and, or_true, true_or, or_false, false_or, if_true, if_false, ↓reduceIte, Decidable.not_not, ne_eq, Int32.reduceLE, Int32.reduceLT, pq_nes, eq_self, h1, h2, q9_don]
  · refine Or.inl ⟨1, 0, by decide, ?_, fun τ hτ => ?_⟩
    · simp (disch := omega) only [f_X7_clearRoof, q8_out, q5_bec, pq_w0 hX, pq_w1 hX, pq_k0 hK, pq_k1 hK, pq_k3 hK, pq_k4 hK, pq_kp hK, pq_ks hK, pq_bd, pq_ck, pq_bx, rc_lt, pq_i10, pq_i01, not_false_eq_true, not_true_eq_false, and_self, and_true, true_and, and_false, false_and, or_true, true_or, or_false, false_or, if_true, if_false, ↓reduceIte, Decidable.not_not, ne_eq, Int32.reduceLE, Int32.reduceLT, pq_nes, eq_self, pq_in, pq_cl, if_neg h1]
    · simp (disch := omega) only [f_X9_clears, q9_in, q9_ref, pq_m1 hM, hτ, pq_mx, pq_in, pq_cl, pq_bd, pq_ck, pq_bx, rc_lt, pq_i10, pq_i01, not_false_eq_true, not_true_eq_false, and_self, and_true, true_and, and_false, false_and, or_true, true_or, or_false, false_or, if_true, if_false, ↓reduceIte, Decidable.not_not, ne_eq, Int32.reduceLE, Int32.reduceLT, pq_nes, eq_self, if_neg h1]
theorem qo_join (hX : pq_X rf x) {u s : Int32} (hs : s = 0 ∨ s = 1) : pq_Op x (f_X7_letCome rf (x + 1) u s) (f_X9_joins rf (x + 308) u s) := by
  intro σ n p Bd g hR hV hB
  have hK := pq_xk hX
  have hM := pq_xm hX
  have h8 := pq_vn hV
  have h4 := pq_vp hV
  have hS := pq_RS hR h8 h4
  by_cases h1 : ¬ u < 0 ∧ ¬ 9 < u
  · by_cases h2 : p = 4
    · subst h2
      have c1 : (Int32.ofNat 4 < 4) = False := by decide
      have c2 : (Int32.ofNat 4 = 4) = True := by decide
      refine Or.inl ⟨2, 4, by decide, ?_, fun τ hτ => ?_⟩
      · simp (disch := omega) only [f_X7_letCome, f_X3_add, q8_out, q5_bec, pq_w0 hX, pq_w1 hX, pq_k0 hK, pq_k1 hK, pq_k3 hK, pq_k4 hK, pq_kp hK, pq_ks hK, pq_bd, pq_ck, pq_bx, rc_lt, pq_i10, pq_i01, not_false_eq_true, not_true_eq_false, and_self, and_true, true_and, and_false, false_and, or_true, true_or, or_false, false_or, if_true, if_false, ↓reduceIte, Decidable.not_not, ne_eq, Int32.reduceLE, Int32.reduceLT, pq_nes, eq_self, pq_c1 hR, pq_v1 hV, h1, c1]
      · simp (disch := omega) only [f_X9_joins, q9_in, q9_ref, pq_m1 hM, hτ, pq_v1 hV, pq_bd, pq_ck, pq_bx, rc_lt, pq_i10, pq_i01, not_false_eq_true, not_true_eq_false, and_self, and_true, true_and, and_false, false_and, or_true, true_or, or_false, false_or, if_true, if_false, ↓reduceIte, Decidable.not_not, ne_eq, Int32.reduceLE, Int32.reduceLT, pq_nes, eq_self, h1, c2]
    · have c1 : (Int32.ofNat p < 4) = True := eq_true ((pq_lt (m := 4) (by omega) (by decide)).mpr (by omega))
      have c2 : (Int32.ofNat p = 4) = False := eq_false (fun q => h2 ((pq_eq (m := 4) (by omega) (by decide)).mp q))
      have hu : 0 ≤ u.toInt ∧ u.toInt ≤ 9 := by
        have a1 := h1.1
        have a2 := h1.2
        rw [Int32.lt_iff_toInt_lt] at a1 a2
        exact ⟨Int.not_lt.mp a1, Int.not_lt.mp a2⟩
      refine Or.inr ⟨Int32.ofNat p, rc_up (rc_up (rc_up σ (x + 2 + 4) p u) (x + 2 + 5) p s) (x + 2 + 3) 2 (Int32.ofNat (p + 1)), upd (upd (upd g (63 + 2 * p) u) (64 + 2 * p) s) 1 (Int32.ofNat (p + 1)), n, p + 1, pq_nnN (by omega), ?_, fun a ha => by rw [pq_upN (by omega), pq_upN (by omega), pq_upN (by omega)], pq_SR (pq_Sc1 (pq_Sps (pq_Spp hS (by omega) u) (by omega) s) _) h8 (by omega) (fun j hj hl => ?_), ?_, fun τ hτ => ⟨rc_up (rc_up (rc_up (rc_up τ (x + 308 + 1) (63 + 2 * p) u) (x + 308 + 1) (64 + 2 * p) s) (x + 308 + 1) 1 (Int32.ofNat (p + 1))) (x + 308) 17 (Int32.ofNat p), ?_, pq_fin (by rw [pq_upE, pq_upE, pq_upE, hτ]) (fun a ha => by rw [pq_upN ha, pq_upN ha, pq_upN ha])⟩⟩
      · simp (disch := omega) only [f_X7_letCome, f_X3_add, q8_out, q5_bec, pq_w0 hX, pq_w1 hX, pq_k0 hK, pq_k1 hK, pq_k3 hK, pq_k4 hK, pq_kp hK, pq_ks hK, pq_bd, pq_ck, pq_bx, rc_lt, pq_i10, pq_i01, not_false_eq_true, not_true_eq_false, and_self, and_true, true_and, and_false, false_and, or_true, true_or, or_false, false_or, if_true, if_false, ↓reduceIte, Decidable.not_not, ne_eq, Int32.reduceLE, Int32.reduceLT, pq_nes, eq_self, pq_c1 hR, pq_v1 hV, h1, c1, pq_in, pq_cl, pq_upN, pq_nb01 hs, pq_s, pq_upE, pq_udE]
        rw [show Int32.ofNat (p + 1) - 1 = Int32.ofNat p from by rw [← pq_s, Int32.add_sub_cancel]]
      · unfold pq_lv at hl ⊢; omega
      · refine pq_Vn hV ⟨by rw [pq_udN (by omega), pq_udN (by omega), pq_udN (by omega)]; exact pq_v0 hV, h8⟩ ⟨pq_udE, by omega⟩ (Or.inl (by rw [pq_udN (by omega), pq_udN (by omega), pq_udN (by omega)])) (Or.inl (by rw [pq_udN (by omega), pq_udN (by omega), pq_udN (by omega)])) (Or.inl (by rw [pq_udN (by omega), pq_udN (by omega), pq_udN (by omega)])) (fun r hr => Or.inl (by rw [pq_udN (by omega), pq_udN (by omega), pq_udN (by omega)])) (fun b hb => Or.inl ⟨hb, fun k hk => by rw [pq_udN (by omega), pq_udN (by omega), pq_udN (by omega)]⟩) (fun j hj => ?_)
        by_cases e : j = p
        · subst e
          refine Or.inr ⟨?_, ?_⟩
          · rw [pq_udN (by omega), pq_udN (by omega), pq_udE]; exact hu
          · rw [pq_udN (by omega), pq_udE]; exact hs
        · exact Or.inl ⟨by omega, by rw [pq_udN (by omega), pq_udN (by omega), pq_udN (by omega)], by rw [pq_udN (by omega), pq_udN (by omega), pq_udN (by omega)]⟩
      · simp (disch := omega) only [f_X9_joins, q9_in, q9_ref, pq_m1 hM, hτ, pq_v1 hV, pq_bd, pq_ck, pq_bx, rc_lt, pq_i10, pq_i01, not_false_eq_true, not_true_eq_false, and_self, and_true, true_and, and_false, false_and, or_true, true_or, or_false, false_or, if_true, if_false, ↓reduceIte, Decidable.not_not, ne_eq, Int32.reduceLE, Int32.reduceLT, pq_nes, eq_self, h1, c2, q9_jy, q9_jx, pq_in, pq_cl, pq_s, q9_don]
        rw [show 63 + 2 * p + 1 = 64 + 2 * p by omega]
  · refine Or.inl ⟨1, 0, by decide, ?_, fun τ hτ => ?_⟩
    · simp (disch := omega) only [f_X7_letCome, f_X3_add, q8_out, q5_bec, pq_w0 hX, pq_w1 hX, pq_k0 hK, pq_k1 hK, pq_k3 hK, pq_k4 hK, pq_kp hK, pq_ks hK, pq_bd, pq_ck, pq_bx, rc_lt, pq_i10, pq_i01, not_false_eq_true, not_true_eq_false, and_self, and_true, true_and, and_false, false_and, or_true, true_or, or_false, false_or, if_true, if_false, ↓reduceIte, Decidable.not_not, ne_eq, Int32.reduceLE, Int32.reduceLT, pq_nes, eq_self, pq_c1 hR, pq_v1 hV, if_neg h1]
    · simp (disch := omega) only [f_X9_joins, q9_in, q9_ref, pq_m1 hM, hτ, pq_v1 hV, pq_bd, pq_ck, pq_bx, rc_lt, pq_i10, pq_i01, not_false_eq_true, not_true_eq_false, and_self, and_true, true_and, and_false, false_and, or_true, true_or, or_false, false_or, if_true, if_false, ↓reduceIte, Decidable.not_not, ne_eq, Int32.reduceLE, Int32.reduceLT, pq_nes, eq_self, if_neg h1]
theorem qo_place (hX : pq_X rf x) {u : Int32} : pq_Op x (f_X7_placeBarrel rf (x + 1) u) (f_X9_places rf (x + 308) u) := by
  intro σ n p Bd g hR hV hB
  have hK := pq_xk hX
  have hM := pq_xm hX
  have h8 := pq_vn hV
  have h4 := pq_vp hV
  have hS := pq_RS hR h8 h4
  by_cases h1 : ¬ u < 0 ∧ ¬ 3 < u
  · by_cases h2 : n = 8
    · subst h2
      have c1 : (Int32.ofNat 8 < 8) = False := by decide
      have c2 : (Int32.ofNat 8 = 8) = True := by decide
      refine Or.inl ⟨2, 8, by decide, ?_, fun τ hτ => ?_⟩
      · simp (disch := omega) only [f_X7_placeBarrel, f_X1_addBarrel, f_X0_makeEmpty, q8_out, q5_bec, pq_w0 hX, pq_w1 hX, pq_k0 hK, pq_k1 hK, pq_k3 hK, pq_k4 hK, pq_kp hK, pq_ks hK, pq_bd, pq_ck, pq_bx, rc_lt, pq_i10, pq_i01, not_false_eq_true, not_true_eq_false, and_self, and_true, true_and, and_false, false_and, or_true, true_or, or_false, false_or, if_true, if_false, ↓reduceIte, Decidable.not_not, ne_eq, Int32.reduceLE, Int32.reduceLT, pq_nes, eq_self, pq_c0 hR, pq_v0 hV, h1, c1]
      · simp (disch := omega) only [f_X9_places, f_X9_empties, q9_in, q9_ref, pq_m1 hM, hτ, pq_v0 hV, pq_bd, pq_ck, pq_bx, rc_lt, pq_i10, pq_i01, not_false_eq_true, not_true_eq_false, and_self, and_true, true_and, and_false, false_and, or_true, true_or, or_false, false_or, if_true, if_false, ↓reduceIte, Decidable.not_not, ne_eq, Int32.reduceLE, Int32.reduceLT, pq_nes, eq_self, h1, c2]
    · have c1 : (Int32.ofNat n < 8) = True := eq_true ((pq_lt (m := 8) (by omega) (by decide)).mpr (by omega))
      have c2 : (Int32.ofNat n = 8) = False := eq_false (fun q => h2 ((pq_eq (m := 8) (by omega) (by decide)).mp q))
      have hu : 0 ≤ u.toInt ∧ u.toInt ≤ 3 := by
        have a1 := h1.1
        have a2 := h1.2
        rw [Int32.lt_iff_toInt_lt] at a1 a2
        exact ⟨Int.not_lt.mp a1, Int.not_lt.mp a2⟩
      refine Or.inr ⟨Int32.ofNat n, rc_up (rc_up (rc_up (rc_up (rc_up (rc_up (rc_up σ (x + 2 + 7 + n) 1 0) (x + 2 + 7 + n) 2 0) (x + 2 + 7 + n) 3 (-1)) (x + 2 + 7 + n) 4 0) (x + 2 + 7 + n) 5 0) (x + 2 + 7 + n) 0 u) (x + 2) 2 (Int32.ofNat (n + 1)), upd (upd (upd (upd (upd (upd (upd g (16 + 6 * n) 0) (17 + 6 * n) 0) (18 + 6 * n) (-1)) (20 + 6 * n) 0) (19 + 6 * n) 0) (15 + 6 * n) u) 0 (Int32.ofNat (n + 1)), n + 1, p, pq_nnN (by omega), ?_, fun a ha => by simp (disch := omega) only [pq_upN], pq_SR (pq_Sc0 (pq_Sb0 (pq_Sb4 (pq_Sb5 (pq_Sb3 (pq_Sb2 (pq_Sb1 hS (by omega) 0) (by omega) 0) (by omega) (-1)) (by omega) 0) (by omega) 0) (by omega) u) _) (by omega) h4 (fun j hj hl => ?_), ?_, fun τ hτ => ⟨rc_up (rc_up (rc_up (rc_up (rc_up (rc_up (rc_up (rc_up τ (x + 308 + 1) (15 + 6 * n) u) (x + 308 + 1) (16 + 6 * n) 0) (x + 308 + 1) (17 + 6 * n) 0) (x + 308 + 1) (18 + 6 * n) (-1)) (x + 308 + 1) (19 + 6 * n) 0) (x + 308 + 1) (20 + 6 * n) 0) (x + 308 + 1) 0 (Int32.ofNat (n + 1))) (x + 308) 17 (Int32.ofNat n), ?_, pq_fin ?_ (fun a ha => by simp only [pq_upN ha])⟩⟩
      · simp (disch := omega) only [f_X7_placeBarrel, f_X1_addBarrel, f_X0_makeEmpty, q8_out, q5_bec, pq_w0 hX, pq_w1 hX, pq_k0 hK, pq_k1 hK, pq_k3 hK, pq_k4 hK, pq_kp hK, pq_ks hK, pq_bd, pq_ck, pq_bx, rc_lt, pq_i10, pq_i01, not_false_eq_true, not_true_eq_false, and_self, and_true, true_and, and_false, false_and, or_true, true_or, or_false, false_or, if_true, if_false, ↓reduceIte, Decidable.not_not, ne_eq, Int32.reduceLE, Int32.reduceLT, pq_nes, eq_self, pq_c0 hR, pq_v0 hV, h1, c1, pq_in, pq_cl, pq_kb hK, pq_upN, pq_s, pq_upE, pq_udE]
        rw [show Int32.ofNat (n + 1) - 1 = Int32.ofNat n from by rw [← pq_s, Int32.add_sub_cancel]]
      · unfold pq_lv at hl ⊢; omega
      · refine pq_Vn hV ⟨pq_udE, by omega⟩ ⟨by simp (disch := omega) only [pq_udN]; exact pq_v1 hV, h4⟩ (Or.inl (by simp (disch := omega) only [pq_udN])) (Or.inl (by simp (disch := omega) only [pq_udN])) (Or.inl (by simp (disch := omega) only [pq_udN])) (fun r hr => Or.inl (by simp (disch := omega) only [pq_udN])) (fun b hb => ?_) (fun j hj => Or.inl ⟨hj, by simp (disch := omega) only [pq_udN], by simp (disch := omega) only [pq_udN]⟩)
        by_cases e : b = n
        · subst e
          refine Or.inr ?_
          simp (disch := omega) only [pq_udN, pq_udE]
          exact ⟨hu, by decide, ⟨by decide, by rw [show (-1 : Int32).toInt = -1 from rfl]; omega⟩, by decide, ⟨by decide, by have := pq_v3 hV; rw [Int32.toInt_zero]; omega⟩, fun _ => ⟨rfl, rfl, rfl, rfl⟩, fun q => absurd rfl q⟩
        · exact Or.inl ⟨by omega, fun k hk => by simp (disch := omega) only [pq_udN]⟩
      · simp (disch := omega) only [f_X9_places, f_X9_empties, q9_in, q9_ref, pq_m1 hM, hτ, pq_v0 hV, pq_bd, pq_ck, pq_bx, rc_lt, pq_i10, pq_i01, not_false_eq_true, not_true_eq_false, and_self, and_true, true_and, and_false, false_and, or_true, true_or, or_false, false_or, if_true, if_false, ↓reduceIte, Decidable.not_not, ne_eq, Int32.reduceLE, Int32.reduceLT, pq_nes, eq_self, h1, c2, q9_st0 hM, q9_st1 hM, q9_st2 hM, q9_st3 hM, q9_st4 hM, q9_st5 hM, pq_s, q9_don]
      · simp only [pq_upE, hτ]
        funext j
        simp only [upd]
        repeat' split
        all_goals first | rfl | omega
  · refine Or.inl ⟨1, 0, by decide, ?_, fun τ hτ => ?_⟩
    · simp (disch := omega) only [f_X7_placeBarrel, f_X1_addBarrel, f_X0_makeEmpty, q8_out, q5_bec, pq_w0 hX, pq_w1 hX, pq_k0 hK, pq_k1 hK, pq_k3 hK, pq_k4 hK, pq_kp hK, pq_ks hK, pq_bd, pq_ck, pq_bx, rc_lt, pq_i10, pq_i01, not_false_eq_true, not_true_eq_false, and_self, and_true, true_and, and_false, false_and, or_true, true_or, or_false, false_or, if_true, if_false, ↓reduceIte, Decidable.not_not, ne_eq, Int32.reduceLE, Int32.reduceLT, pq_nes, eq_self, pq_c0 hR, pq_v0 hV, if_neg h1]
    · simp (disch := omega) only [f_X9_places, f_X9_empties, q9_in, q9_ref, pq_m1 hM, hτ, pq_v0 hV, pq_bd, pq_ck, pq_bx, rc_lt, pq_i10, pq_i01, not_false_eq_true, not_true_eq_false, and_self, and_true, true_and, and_false, false_and, or_true, true_or, or_false, false_or, if_true, if_false, ↓reduceIte, Decidable.not_not, ne_eq, Int32.reduceLE, Int32.reduceLT, pq_nes, eq_self, if_neg h1]
end PQOP
