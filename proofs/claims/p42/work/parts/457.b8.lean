/-! HISTORY, AND isKept -/
theorem lg_0 (v : Int64) : lg_cmp v v = 0 := by unfold lg_cmp; simp
abbrev pG := (Nat → Int32) × Nat × Nat
/-- the ring of what was set aside -/
def pH (σ : rc_S) (x : Nat) (G : Nat → pG) (m K F : Nat) : Prop := K ≤ 8 ∧ K ≤ m ∧ F < 9 ∧ σ (x + 57) 2 = Int32.ofNat K ∧ σ (x + 57) 1 = Int32.ofNat F ∧ ∀ j, j < K → pq_R σ (x + 59 + 27 * ((F + j) % 9)) (G (m - K + j)).1 (G (m - K + j)).2.1 (G (m - K + j)).2.2
def pKx (σ : rc_S) (x : Nat) (G : Nat → pG) (m K F : Nat) (L : List Nat) : Prop := pq_R σ (x + 2) (G m).1 (G m).2.1 (G m).2.2 ∧ pH σ x G m K F ∧ pq_OC σ x L ∧ σ (x + 302) 1 = 0
def pVI (G : Nat → pG) (m N : Nat) : Prop := ∀ i, i ≤ m → pq_V (G i).1 (G i).2.1 (G i).2.2 N ∧ pI (G i).1 (G i).2.1
def pG1 (G : Nat → pG) (m : Nat) (q : pG) : Nat → pG := fun i => if i = m + 1 then q else G i
theorem pG1_e {G : Nat → pG} {m : Nat} {q : pG} : pG1 G m q (m + 1) = q := if_pos rfl
theorem pG1_n {G : Nat → pG} {m : Nat} {q : pG} {i : Nat} (h : i ≤ m) : pG1 G m q i = G i := if_neg (by omega)
theorem pVI_1 {G : Nat → pG} {m N N' : Nat} {q : pG} (h : pVI G m N) (hN : N ≤ N') (hV : pq_V q.1 q.2.1 q.2.2 N') (hI : pI q.1 q.2.1) : pVI (pG1 G m q) (m + 1) N' := fun i hi => by
  by_cases e : i = m + 1
  · subst e; rw [pG1_e]; exact ⟨hV, hI⟩
  · rw [pG1_n (by omega)]; exact ⟨pq_Vm (h i (by omega)).1 hN, (h i (by omega)).2⟩
def pk_Op (x : Nat) (A : rc_S → Option (Int32 × rc_S)) (Ψ : Prop) (Θ : (Nat → Int32) → Nat → Nat → Int32 → (Nat → Int32) → Prop) : Prop := ∀ (σ : rc_S) (n p Bd : Nat) (g : Nat → Int32), pq_R σ (x + 2) g n p → pq_V g n p Bd → Bd ≤ 890 → pI g n →
  (∃ code det, Ψ ∧ A σ = some (-1, rc_up (rc_up (rc_up σ (x + 29) 0 code) (x + 29) 1 det) (x + 29) 2 0)) ∨
  (∃ v σ' g' n' p', 0 ≤ v.toInt ∧ A σ = some (v, σ') ∧ (∀ a, (a < x + 2 ∨ x + 29 ≤ a) → σ' a = σ a) ∧ pq_R σ' (x + 2) g' n' p' ∧ pq_V g' n' p' (Bd + 1) ∧ pI g' n' ∧ Θ g n p v g')
theorem pk_of {x : Nat} {A : rc_S → Option (Int32 × rc_S)} {Ψ : Prop} {Φ : (Nat → Int32) → Nat → Nat → Int32 → (Nat → Int32) → Nat → Nat → Prop} {Θ : (Nat → Int32) → Nat → Nat → Int32 → (Nat → Int32) → Prop} (h : pa_Op x A Ψ Φ) (hI : ∀ g n p Bd v g' n' p', pq_V g n p Bd → Bd ≤ 890 → pI g n → Φ g n p v g' n' p' → pI g' n' ∧ Θ g n p v g') : pk_Op x A Ψ Θ := by
  intro σ n p Bd g hR hV hB hP
  rcases h σ n p Bd g hR hV hB with h | ⟨v, σ', g', n', p', h1, h2, h3, h4, h5, h6⟩
  · exact Or.inl h
  · have k := hI g n p Bd v g' n' p' hV hB hP h6
    exact Or.inr ⟨v, σ', g', n', p', h1, h2, h3, h4, h5, k.1, k.2⟩
section PB8
variable {rf : rc_F} {z : rc_Z} {x : Nat} {σ : rc_S} {G : Nat → pG} {m K F N : Nat} {L : List Nat} {q : pG}
theorem pk_clear (hX : pq_X rf x) {u : Int32} : pk_Op x (f_X7_clearRoof rf (x + 1) u) True (fun _ _ _ _ _ => True) := pk_of (pa_clear hX) (fun g n p Bd v g' n' p' hV hB hP ⟨i, hi, _, _, e, en, _⟩ => by subst e; subst en; exact ⟨pi_clear hV hP hi 0, trivial⟩)
theorem pk_join (hX : pq_X rf x) {u s : Int32} (hs : s = 0 ∨ s = 1) : pk_Op x (f_X7_letCome rf (x + 1) u s) True (fun _ _ _ _ _ => True) := pk_of (pa_join hX hs) (fun g n p Bd v g' n' p' hV hB hP ⟨hp, _, e, en, _⟩ => by subst e; subst en; exact ⟨pi_join hV hP hp u s _, trivial⟩)
theorem pk_place (hX : pq_X rf x) {u : Int32} : pk_Op x (f_X7_placeBarrel rf (x + 1) u) True (fun _ _ _ _ _ => True) := pk_of (pa_place hX) (fun g n p Bd v g' n' p' hV hB hP ⟨hn, _, _, e, en, _⟩ => by subst e; subst en; exact ⟨pi_place hV hP hn u _, trivial⟩)
theorem pk_hail (hX : pq_X rf x) {u k : Int32} : pk_Op x (f_X7_adulterate rf (x + 1) u k) True (fun _ _ _ _ _ => True) := pk_of (pa_hail hX) (fun g n p Bd v g' n' p' hV hB hP ⟨b, k, hb, _, _, _, _, _, e, en, _⟩ => by subst e; subst en; exact ⟨pi_hail hV hP hb _ _ _, trivial⟩)
theorem pk_year (hX : pq_X rf x) : pk_Op x (f_X7_letYearGoBy rf (x + 1)) False (fun _ _ _ _ _ => True) := pk_of (pa_year hX) (fun g n p Bd v g' n' p' hV hB hP ⟨_, e, en, _⟩ => by subst e; subst en; exact ⟨pi_year hV hB hP, trivial⟩)
theorem pk_leave (hX : pq_X rf x) {u : Int32} : pk_Op x (f_X7_letLeave rf (x + 1) u) True (fun _ _ _ _ _ => True) := pk_of (pa_leave hX) (fun g n p Bd v g' n' p' hV hB hP ⟨j, hj, e, en, _⟩ => by subst e; subst en; exact ⟨pi_leave hV hP hj, trivial⟩)
theorem pk_take (hX : pq_X rf x) {u : Int32} : pk_Op x (f_X7_removeBarrel rf (x + 1) u) True (fun _ _ _ _ _ => True) := pk_of (pa_take hX) (fun g n p Bd v g' n' p' hV hB hP ⟨b, hb, h0, e, en, _⟩ => by subst e; subst en; exact ⟨pi_take hV hP hb h0, trivial⟩)
theorem pk_pour (hX : pq_X rf x) {u v k : Int32} : pk_Op x (f_X7_pourOver rf (x + 1) u v k) True (fun _ _ _ _ _ => True) := pk_of (pa_pour hX) (fun g n p Bd v g' n' p' hV hB hP ⟨f, t, k, hf, ht, hft, _, _, _, _, _, e, en, _⟩ => by subst e; subst en; exact ⟨pi_pour hV hP hf ht hft _ _, trivial⟩)
/-- what a drink answers -/
def pD (u : Int32) (g : Nat → Int32) (n p : Nat) (v : Int32) (g' : Nat → Int32) : Prop := ∃ b, b < n ∧ u = Int32.ofNat b ∧ g (16 + 6 * b) ≠ 0 ∧ ((pq_ns g p (pq_P g b) = 0 ∧ v = pq_N g b 0 * g 1 ∧ g' 10 = g 10) ∨ (pq_ns g p (pq_P g b) ≠ 0 ∧ v = 0 ∧ g' 10 = g 10 + 1))
theorem pk_drink (hX : pq_X rf x) {u : Int32} : pk_Op x (f_X7_letPanelDrink rf (x + 1) u) True (pD u) := pk_of (pa_drink hX) (fun g n p Bd v g' n' p' hV hB hP ⟨b, hb, hu, hp, hl, en, _, h⟩ => by
  subst en
  have h0 : g (16 + 6 * b) ≠ 0 := fun e => by rw [e, Int32.toInt_zero] at hl; omega
  rcases h with ⟨h1, h2, e⟩ | ⟨h1, h2, e⟩
  · subst e
    exact ⟨pi_drink1 hV hP hb _ _, b, hb, hu, h0, Or.inl ⟨h1, h2, by rw [pq_udN (by omega), pq_goN 10 (by omega)]⟩⟩
  · subst e
    exact ⟨pi_drink2 hV hP hb _ _, b, hb, hu, h0, Or.inr ⟨h1, h2, by rw [pq_emN 10 (by omega), pq_udE]⟩⟩)
def pS4 (g : Nat → Int32) (n : Nat) (u : Int32) : Int32 := pq_cg g n u 0 + pq_cg g n u 1 + pq_cg g n u 2 + pq_cg g n u 3
theorem pk_storm (hX : pq_X rf x) {u h : Int32} : pk_Op x (f_X7_letStormBy rf (x + 1) u h) (¬ ((¬ u < 1 ∧ ¬ 9 < u) ∧ ¬ h < 0 ∧ ¬ 3 < h)) (fun g n _ v g' => v = pS4 g n u ∧ g' 7 = g 7 + (10 * u - pS4 g n u)) := pk_of (pa_storm hX) (fun g n p Bd v g' n' p' hV hB hP ⟨s, T, A, kb, G, s1, s9, hu, hT, hT9, hA, hv, hkb, hG, h7, _, e, en, _⟩ => by
  subst e; subst en; subst hu
  have hT8 : T ≤ 890 := by
    have := (pq_v4 hV).2
    rw [hT, pq_ti (by omega)] at this
    omega
  have k := pi_storm hV hB hP s1 s9 (kb := kb) hT hT8 hG hA
  refine ⟨k.2, hv.trans k.1, ?_⟩
  rw [pq_udN (by omega), pq_udN (by omega), pq_udN (by omega), pq_udN (by omega), pq_udN (by omega), pq_udE, h7, k.1]
  rfl)
theorem pH_f {σ' : rc_S} (h : pH σ x G m K F) (hV : pVI G m N) (h57 : σ' (x + 57) = σ (x + 57)) (hr : ∀ a, x + 59 ≤ a → a < x + 302 → (∀ k, k < K → a < x + 59 + 27 * ((F + k) % 9) ∨ x + 59 + 27 * ((F + k) % 9) + 27 ≤ a) ∨ σ' a = σ a) : pH σ' x G m K F := by
  obtain ⟨k8, km, hF, h2, h1, hj⟩ := h
  refine ⟨k8, km, hF, by rw [h57]; exact h2, by rw [h57]; exact h1, fun j hjK => ?_⟩
  have hm3 : (F + j) % 9 < 9 := Nat.mod_lt _ (by decide)
  refine pq_Rf (hj j hjK) (pq_vn (hV _ (by omega)).1) (fun a a1 a2 => ?_)
  rcases hr a (by omega) (by omega) with q | q
  · have := q j hjK; omega
  · exact q
theorem pK_pF {σ' : rc_S} {L' : List Nat} (h : pKx σ x G m K F L) (hV : pVI G m N) (hf : pF x σ σ') (hO : pq_OC σ' x L') : pKx σ' x G m K F L' := by
  obtain ⟨h1, h2, h3, h4⟩ := h
  exact ⟨pq_Rf h1 (pq_vn (hV m (Nat.le_refl m)).1) (fun a _ _ => hf a (by omega) (by omega)), pH_f h2 hV (hf _ (by omega) (by omega)) (fun a _ _ => Or.inr (hf a (by omega) (by omega))), hO, by rw [hf _ (by omega) (by omega)]; exact h4⟩
theorem pq_OCf {σ' : rc_S} (h : pq_OC σ x L) (h6 : σ' (x + 306) = σ (x + 306)) (h7 : σ' (x + 307) = σ (x + 307)) : pq_OC σ' x L := by
  unfold pq_OC at h ⊢
  rw [h6, h7]; exact h
/-- set aside -/
theorem pk_set (hX : pq_X rf x) (h : pKx σ x G m K F L) (hV : pVI G m N) : ∃ s, f_X2_setAside rf (x + 57) (x + 2) σ = some ((), s) ∧ pKx s x G m K F L ∧ pq_R s (x + 59 + 27 * ((F + K) % 9)) (G m).1 (G m).2.1 (G m).2.2 ∧ ∀ a, (a < x + 59 ∨ x + 302 ≤ a) → s a = σ a := by
  obtain ⟨h1, h2, h3, h4⟩ := h
  have hm : (F + K) % 9 < 9 := Nat.mod_lt _ (by decide)
  have hH := h2
  obtain ⟨k8, km, hF, e2, e1, hj⟩ := h2
  obtain ⟨s, b1, b2, b3⟩ := q8_set (σ := σ) hX k8 hF e2 e1
  have fr : ∀ a, (a < x + 59 ∨ x + 302 ≤ a) → s a = σ a := fun a ha => b2 a (by omega)
  have hVm := (hV m (Nat.le_refl m)).1
  refine ⟨s, b1, ⟨pq_Rf h1 (pq_vn hVm) (fun a _ _ => fr a (by omega)), pH_f hH hV (fr _ (by omega)) (fun a a1 a2 => ?_), pq_OCf h3 (fr _ (by omega)) (fr _ (by omega)), by rw [fr _ (by omega)]; exact h4⟩, b3 _ _ _ _ h1 hVm, fr⟩
  by_cases q : a < x + 59 + 27 * ((F + K) % 9) ∨ x + 59 + 27 * ((F + K) % 9) + 27 ≤ a
  · exact Or.inr (b2 a q)
  · left
    intro k hk
    have hm3 : (F + k) % 9 < 9 := Nat.mod_lt _ (by decide)
    have hne : (F + k) % 9 ≠ (F + K) % 9 := by omega
    omega
/-- keep what was set aside -/
theorem pk_keep (hX : pq_X rf x) {s : rc_S} (hH : pH s x G m K F) (hV : pVI G m N) (hS : pq_R s (x + 59 + 27 * ((F + K) % 9)) (G m).1 (G m).2.1 (G m).2.2) (hR : pq_R s (x + 2) q.1 q.2.1 q.2.2) (hVq : pq_V q.1 q.2.1 q.2.2 (N + 2)) (hO : pq_OC s x L) (hT : s (x + 302) 1 = 0) : ∃ t, f_X2_keepAside rf (x + 57) s = some ((), t) ∧ (∀ a, a ≠ x + 57 → t a = s a) ∧ pKx t x (pG1 G m q) (m + 1) (if K = 8 then 8 else K + 1) (if K = 8 then (F + 1) % 9 else F) L := by
  obtain ⟨k8, km, hF, e2, e1, hj⟩ := hH
  obtain ⟨t, b1, b2, b3, b4⟩ := q8_keep (rf := rf) hX k8 hF e2 e1
  refine ⟨t, b1, b2, ?_, ⟨by split <;> omega, by split <;> omega, by split <;> omega, b3, b4, fun j hj' => ?_⟩, pq_OCf hO (b2 _ (by omega)) (b2 _ (by omega)), by rw [b2 _ (by omega)]; exact hT⟩
  · rw [pG1_e]; exact pq_Rf hR (pq_vn hVq) (fun a _ _ => b2 a (by omega))
  · have hVm := (hV m (Nat.le_refl m)).1
    by_cases e : j = (if K = 8 then 8 else K + 1) - 1
    · have em : ((if K = 8 then (F + 1) % 9 else F) + j) % 9 = (F + K) % 9 := by
        rw [e]
        by_cases h8 : K = 8
        · rw [if_pos h8, if_pos h8]; omega
        · rw [if_neg h8, if_neg h8]; omega
      have eG : m + 1 - (if K = 8 then 8 else K + 1) + j = m := by rw [e]; split <;> omega
      rw [em, eG, pG1_n (Nat.le_refl m)]
      have hm3 : (F + K) % 9 < 9 := Nat.mod_lt _ (by decide)
      exact pq_Rf hS (pq_vn hVm) (fun a _ _ => b2 a (by omega))
    · have hj2 : j < (if K = 8 then 8 else K + 1) - 1 := by omega
      have hjK : (if K = 8 then j + 1 else j) < K := by
        by_cases h8 : K = 8
        · rw [if_pos h8] at hj2 ⊢; omega
        · rw [if_neg h8] at hj2 ⊢; omega
      have em : ((if K = 8 then (F + 1) % 9 else F) + j) % 9 = (F + (if K = 8 then j + 1 else j)) % 9 := by
        by_cases h8 : K = 8
        · rw [if_pos h8, if_pos h8]; omega
        · rw [if_neg h8, if_neg h8]
      have eG : m + 1 - (if K = 8 then 8 else K + 1) + j = m - K + (if K = 8 then j + 1 else j) := by
        by_cases h8 : K = 8
        · rw [if_pos h8, if_pos h8]; omega
        · rw [if_neg h8, if_neg h8]; omega
      rw [em, eG, pG1_n (by omega)]
      have hm3 : (F + (if K = 8 then j + 1 else j)) % 9 < 9 := Nat.mod_lt _ (by decide)
      exact pq_Rf (hj _ hjK) (pq_vn (hV _ (by omega)).1) (fun a _ _ => b2 a (by omega))
/-- a change of the class: refused, or kept -/
def pM (rf : rc_F) (x : Nat) (A : rc_S → Option (Int32 × rc_S)) (σ : rc_S) : Option (Nat × Int32 × rc_S) := rc_bd (f_X2_setAside rf (x + 57) (x + 2) σ) fun _ s1 => rc_bd (A s1) fun w s2 => rc_bx (f_X8_kept rf x w s2) (0 : Int32) fun w3 s3 => some (0, w3, s3)
theorem pk_step (hX : pq_X rf x) {A : rc_S → Option (Int32 × rc_S)} {Ψ : Prop} {Θ : (Nat → Int32) → Nat → Nat → Int32 → (Nat → Int32) → Prop} (hA : pk_Op x A Ψ Θ) (h : pKx σ x G m K F L) (hV : pVI G m N) (hN : N ≤ 890) :
    (Ψ ∧ ∃ σ', pM rf x A σ = some (1, 0, σ') ∧ pKx σ' x G m K F L) ∨ ∃ v σ' q, 0 ≤ v.toInt ∧ pM rf x A σ = some (0, v, σ') ∧ pKx σ' x (pG1 G m q) (m + 1) (if K = 8 then 8 else K + 1) (if K = 8 then (F + 1) % 9 else F) L ∧ pVI (pG1 G m q) (m + 1) (N + 2) ∧ Θ (G m).1 (G m).2.1 (G m).2.2 v q.1 := by
  obtain ⟨s, b1, b2, b3, b4⟩ := pk_set hX h hV
  have hVm := hV m (Nat.le_refl m)
  obtain ⟨r1, r2, r3, r4⟩ := b2
  rcases hA s _ _ N _ r1 hVm.1 hN hVm.2 with ⟨code, det, hp, e⟩ | ⟨v, σ', g', n', p', v0, e, fr, c1, c2, c3, c4⟩
  · refine Or.inl ⟨hp, rc_up (rc_up (rc_up s (x + 29) 0 code) (x + 29) 1 det) (x + 29) 2 0, ?_, ?_⟩
    · rw [pM, b1, pq_bd, e, pq_bd, f_X8_kept, if_pos rfl, pq_bxk (by decide)]
    · have fr : ∀ a, a ≠ x + 29 → rc_up (rc_up (rc_up s (x + 29) 0 code) (x + 29) 1 det) (x + 29) 2 0 a = s a := fun a ha => by rw [pq_upN ha, pq_upN ha, pq_upN ha]
      exact ⟨pq_Rf r1 (pq_vn hVm.1) (fun a _ _ => fr a (by omega)), pH_f r2 hV (fr _ (by omega)) (fun a _ _ => Or.inr (fr a (by omega))), pq_OCf r3 (fr _ (by omega)) (fr _ (by omega)), by rw [fr _ (by omega)]; exact r4⟩
  · have hm3 : (F + K) % 9 < 9 := Nat.mod_lt _ (by decide)
    obtain ⟨t, d1, d2, d3⟩ := pk_keep (rf := rf) hX (pH_f r2 hV (fr _ (by omega)) (fun a _ _ => Or.inr (fr a (by omega)))) hV (pq_Rf b3 (pq_vn hVm.1) (fun a _ _ => fr a (by omega))) (q := (g', n', p')) c1 (pq_Vm c2 (by omega)) (pq_OCf r3 (fr _ (by omega)) (fr _ (by omega))) (by rw [fr _ (by omega)]; exact r4)
    refine Or.inr ⟨v, t, (g', n', p'), v0, ?_, d3, pVI_1 hV (by omega) (pq_Vm c2 (by omega)) c3, c4⟩
    rw [pM, b1, pq_bd, e, pq_bd, f_X8_kept, if_neg (pq_nn v0), pq_x5 hX, d1, pq_bd, pq_bx]
theorem pk_yearS (hX : pq_X rf x) (h : pKx σ x G m K F L) (hV : pVI G m N) (hN : N ≤ 890) : ∃ v σ' q, 0 ≤ v.toInt ∧ f_X8_year rf x σ = some (v, σ') ∧ pKx σ' x (pG1 G m q) (m + 1) (if K = 8 then 8 else K + 1) (if K = 8 then (F + 1) % 9 else F) L ∧ pVI (pG1 G m q) (m + 1) (N + 2) := by
  obtain ⟨s, b1, b2, b3, b4⟩ := pk_set hX h hV
  have hVm := hV m (Nat.le_refl m)
  obtain ⟨r1, r2, r3, r4⟩ := b2
  rcases pk_year hX s _ _ N _ r1 hVm.1 hN hVm.2 with ⟨code, det, hp, e⟩ | ⟨v, σ', g', n', p', v0, e, fr, c1, c2, c3, c4⟩
  · exact hp.elim
  · have hm3 : (F + K) % 9 < 9 := Nat.mod_lt _ (by decide)
    obtain ⟨t, d1, d2, d3⟩ := pk_keep (rf := rf) hX (pH_f r2 hV (fr _ (by omega)) (fun a _ _ => Or.inr (fr a (by omega)))) hV (pq_Rf b3 (pq_vn hVm.1) (fun a _ _ => fr a (by omega))) (q := (g', n', p')) c1 (pq_Vm c2 (by omega)) (pq_OCf r3 (fr _ (by omega)) (fr _ (by omega))) (by rw [fr _ (by omega)]; exact r4)
    refine ⟨v, t, (g', n', p'), v0, ?_, d3, pVI_1 hV (by omega) (pq_Vm c2 (by omega)) c3⟩
    rw [f_X8_year, pq_x5 hX, pq_x1 hX, pq_x0 hX, b1, pq_bd, e, pq_bd, d1, pq_bd]
/-- one change is taken back -/
theorem pk_undo (hX : pq_X rf x) (h : pKx σ x G m K F L) (hV : pVI G m N) (h0 : K ≠ 0) : ∃ σ', f_L_undo rf z x σ = some (Int32.ofNat (K - 1), σ') ∧ pKx σ' x G (m - 1) (K - 1) F L ∧ (∀ a, x + 30 ≤ a → a < x + 57 → σ' a = σ a) ∧ σ' x = σ x := by
  obtain ⟨h1, ⟨k8, km, hF, e2, e1, hj⟩, h3, h4⟩ := h
  have hz : ¬ Int32.ofNat K = 0 := fun q => h0 ((pq_eq (m := 0) (by omega) (by decide)).mp q)
  have hm : (F + (K - 1)) % 9 < 9 := Nat.mod_lt _ (by decide)
  have ha := q8_asd (σ := rc_up σ (x + 57) 2 (Int32.ofNat (K - 1))) hX (K := K - 1) (F := F) (by omega) hF (by rw [pq_upE, pq_udE]) (by rw [pq_upE, pq_udN (by decide)]; exact e1)
  obtain ⟨a1, b1, b2, b3⟩ := qc (rf := rf) (c1 := x + 2) (c2 := x + 59 + 27 * ((F + (K - 1)) % 9)) (pq_xk hX) (pq_xh hX hm) (by omega) (rc_up σ (x + 57) 2 (Int32.ofNat (K - 1)))
  have hk := hj (K - 1) (by omega)
  rw [show m - K + (K - 1) = m - 1 by omega] at hk
  have hVk := (hV (m - 1) (by omega)).1
  have hR' := b3 _ _ _ N (pq_Rf hk (pq_vn hVk) (fun a _ _ => pq_upN (by omega))) hVk
  have z0 : ∀ a, (a < x + 2 ∨ x + 29 ≤ a) → a ≠ x + 57 → a1 a = σ a := fun a q1 q2 => by rw [b2 a (by omega), pq_upN q2]
  have z57 : a1 (x + 57) = upd (σ (x + 57)) 2 (Int32.ofNat (K - 1)) := by rw [b2 _ (by omega), pq_upE]
  refine ⟨a1, ?_, ⟨hR', ⟨by omega, by omega, hF, by rw [z57, pq_udE], by rw [z57, pq_udN (by decide)]; exact e1, fun j hj' => ?_⟩, pq_OCf h3 (z0 _ (by omega) (by omega)) (z0 _ (by omega) (by omega)), by rw [z0 _ (by omega) (by omega)]; exact h4⟩, fun a q1 q2 => z0 a (by omega) (by omega), z0 _ (by omega) (by omega)⟩
  · rw [f_L_undo, f_X8_undo, pq_x5 hX, e2, if_neg hz, f_X2_takeLatest, e2, q9_k1 (by omega), rc_lt, ha, pq_bd, pq_bd, pq_x1 hX, b1, pq_bd, z57, pq_udE]
    rfl
  · have hq := hj j (by omega)
    rw [show m - 1 - (K - 1) + j = m - K + j by omega]
    have hm3 : (F + j) % 9 < 9 := Nat.mod_lt _ (by decide)
    exact pq_Rf hq (pq_vn (hV _ (by omega)).1) (fun a _ _ => z0 a (by omega) (by omega))
theorem pk_undo0 (hX : pq_X rf x) (h2 : σ (x + 57) 2 = Int32.ofNat 0) : f_L_undo rf z x σ = some (-79, σ) := by
  rw [f_L_undo, f_X8_undo, pq_x5 hX, h2, if_pos (show Int32.ofNat 0 = 0 from rfl)]
  rfl
theorem pk_sum (hX : pq_X rf x) (h : pKx σ x G m K F L) (hV : pVI G m N) : ∃ σ' L', f_L_sum rf z x σ = some (pb_sm (G m).1 (G m).2.1 (G m).2.2, σ') ∧ pKx σ' x G m K F L' ∧ pF x σ σ' := by
  obtain ⟨σ', L', e, f, o⟩ := pb_sum (z := z) hX h.1 (hV m (Nat.le_refl m)).1 h.2.2.1
  exact ⟨σ', L', e, pK_pF h hV f o, f⟩
theorem pk_44 (hX : pq_X rf x) {M : Nat} {φ : Nat → Int64} (hM : M ≤ 48) (hφ : ∀ i, i ≤ M → φ i = pb_sm (G i).1 (G i).2.1 (G i).2.2) (hV : pVI G M N) (v2 v3 : Int32) : ∀ (K fu m : Nat) (σ : rc_S) (L : List Nat), m ≤ M → pKx σ x G m K F L → ∃ σ' L' v5, (∀ J : Int32 → Int32 → rc_S → (Nat → Int64) → Option (Int32 × rc_S), f_L_isKept_44 rf z x v2 v3 J (fu + K + 1) (Int32.ofNat K) (Int32.ofNat m - 1) σ φ = J (Int32.ofNat 0) v5 σ' φ) ∧ pKx σ' x G (m - K) 0 F L' ∧ (∀ a, x + 30 ≤ a → a < x + 57 → σ' a = σ a) ∧ σ' x = σ x := by
  intro K
  induction K with
  | zero =>
    intro fu m σ L hm h
    exact ⟨σ, L, _, fun J => by rw [f_L_isKept_44, if_pos (show Int32.ofNat 0 ≤ 0 from Int32.le_refl _)], h, fun _ _ _ => rfl, rfl⟩
  | succ K ih =>
    intro fu m σ L hm h
    have hVm : pVI G m N := fun i hi => hV i (by omega)
    have hVm1 : pVI G (m - 1) N := fun i hi => hV i (by omega)
    have km : K + 1 ≤ m := h.2.1.2.1
    have k8 : K + 1 ≤ 8 := h.2.1.1
    obtain ⟨σ1, u1, u2, u3, u4⟩ := pk_undo (z := z) hX h hVm (by omega)
    rw [show K + 1 - 1 = K from rfl] at u1 u2
    obtain ⟨σ2, L2, w1, w2, w3⟩ := pk_sum (z := z) hX u2 hVm1
    obtain ⟨σ', L', v5, i1, i2, i3, i4⟩ := ih fu (m - 1) σ2 L2 (by omega) w2
    refine ⟨σ', L', v5, fun J => ?_, by rw [show m - (K + 1) = m - 1 - K by omega]; exact i2, fun a q1 q2 => by rw [i3 a q1 q2, w3 a (by omega) (by omega), u3 a q1 q2], by rw [i4, w3 x (by omega) (by omega), u4]⟩
    have e1 : Int32.ofNat (K + 1) + (-1) = Int32.ofNat K := by rw [← Int32.sub_eq_add_neg, q9_k1 (by omega)]; rfl
    rw [show fu + (K + 1) + 1 = (fu + K + 1) + 1 from rfl, f_L_isKept_44, if_neg (fun q => by have := (pq_le (m := 0) (by omega) (by decide)).mp q; omega), e1, rc_lt, u1, pq_bd, if_pos rfl, w1, pq_bd, q9_k1 (by omega), pq_in (show m - 1 < 60 by omega) (by decide), pq_ck, pq_cl (by omega), hφ (m - 1) (by omega), lg_0, if_pos rfl, rc_lt, ← Int32.sub_eq_add_neg]
    exact i1 J
/-- the end: all changes come back, and the snapshot too -/
theorem pk_kept (hX : pq_X rf x) {φ : Nat → Int64} (hm : m ≤ 48) (h : pKx σ x G m K F L) (hK : K = m ∨ (K = 8 ∧ 8 ≤ m)) (hV : pVI G m N) (hφ : ∀ i, i ≤ m → φ i = pb_sm (G i).1 (G i).2.1 (G i).2.2) : ∃ σ', f_L_isKept rf z x (Int32.ofNat m) σ φ = some (1, σ') := by
  have hVm := (hV m (Nat.le_refl m)).1
  obtain ⟨h1, h2, h3, h4⟩ := h
  have k8 := h2.1
  obtain ⟨s, b1, b2, b3⟩ := qc (rf := rf) (c1 := x + 30) (c2 := x + 2) (pq_xs hX) (pq_xk hX) (by omega) σ
  have fr : ∀ a, a ≠ x → (a < x + 30 ∨ x + 57 ≤ a) → rc_up s x 4 1 a = σ a := fun a q1 q2 => by rw [pq_upN q1, b2 a (by omega)]
  have R1 : pq_R (rc_up s x 4 1) (x + 2) (G m).1 (G m).2.1 (G m).2.2 := pq_Rf h1 (pq_vn hVm) (fun a _ _ => fr a (by omega) (by omega))
  have hs : pKx (rc_up s x 4 1) x G m K F L := ⟨R1, pH_f h2 hV (fr _ (by omega) (by omega)) (fun a _ _ => Or.inr (fr a (by omega) (by omega))), pq_OCf h3 (fr _ (by omega) (by omega)) (fr _ (by omega) (by omega)), by rw [fr _ (by omega) (by omega)]; exact h4⟩
  have hsv : pq_R (rc_up s x 4 1) (x + 30) (G m).1 (G m).2.1 (G m).2.2 := pq_Rf (b3 _ _ _ _ h1 hVm) (pq_vn hVm) (fun a _ _ => pq_upN (by omega))
  have hmin : (if Int32.ofNat m < (8 : Int32) then Int32.ofNat m else (8 : Int32)) = Int32.ofNat K := by
    rcases hK with e | ⟨e, e2⟩
    · subst e
      by_cases q : K = 8
      · subst q; rfl
      · rw [if_pos (show Int32.ofNat K < (8 : Int32) from (pq_lt (n := K) (m := 8) (by omega) (by decide)).mpr (by omega))]
    · subst e
      rw [if_neg (fun q => by have := (pq_lt (m := 8) (by omega) (by decide)).mp q; omega)]
      rfl
  obtain ⟨σ3, L3, v5, i1, i2, i3, i4⟩ := pk_44 (z := z) hX hm hφ hV (Int32.ofNat m) ((G m).1 0) K (8 - K) m (rc_up s x 4 1) L (Nat.le_refl m) hs
  rw [show 8 - K + K + 1 = 9 by omega] at i1
  have z57 : σ3 (x + 57) 2 = Int32.ofNat 0 := i2.2.1.2.2.2.1
  obtain ⟨t, c1, c2, c3⟩ := qc (rf := rf) (c1 := x + 2) (c2 := x + 30) (pq_xk hX) (pq_xs hX) (by omega) σ3
  have R3 := c3 _ _ _ _ (pq_Rf hsv (pq_vn hVm) (fun a q1 q2 => i3 a (by omega) (by omega))) hVm
  have R4 : pq_R (rc_up t (x + 57) 2 0) (x + 2) (G m).1 (G m).2.1 (G m).2.2 := pq_Rf R3 (pq_vn hVm) (fun a _ _ => pq_upN (by omega))
  have O4 : pq_OC (rc_up t (x + 57) 2 0) x L3 := pq_OCf i2.2.2.1 (by rw [pq_upN (by omega), c2 _ (by omega)]) (by rw [pq_upN (by omega), c2 _ (by omega)])
  obtain ⟨σ5, L5, s1, s2, s3⟩ := pb_sum (z := z) hX R4 hVm O4
  have z4 : σ3 x 4 = 1 := by rw [i4, pq_upE, pq_udE]
  have e3 : f_L_restore rf z x σ3 = some ((G m).1 0, rc_up t (x + 57) 2 0) := by
    have q : rc_up t (x + 57) 2 0 (x + 2) 2 = (G m).1 0 := R4.1.1
    rw [f_L_restore, f_X8_restore, if_neg (by rw [z4]; decide), pq_x1 hX, pq_x3 hX, c1, pq_bd, pq_x5 hX, f_X2_forget, rc_lt, pq_bd, q]
    rfl
  have e2 : f_X8_save rf x σ = some ((G m).1 0, rc_up s x 4 1) := by
    have q : rc_up s x 4 1 (x + 2) 2 = (G m).1 0 := R1.1.1
    rw [f_X8_save, pq_x3 hX, pq_x1 hX, b1, pq_bd, rc_lt, q]
  refine ⟨σ5, ?_⟩
  rw [f_L_isKept, ql_acc0 hX h1 hVm, pq_bd, e2, pq_bd, if_pos rfl, ql_acc10 hX R1 hVm, pq_bd, hs.2.1.2.2.2.1, hmin, if_pos rfl, rc_lt, rc_lt, i1, pk_undo0 hX z57, pq_bd, if_pos rfl, e3, pq_bd, if_pos rfl, s1, pq_bd, pq_in (show m < 60 by omega) (by decide), pq_ck, pq_cl (by omega), hφ m (Nat.le_refl m), lg_0, if_pos rfl, pk_undo0 hX (by rw [s2 _ (by omega) (by omega), pq_upE, pq_udE]; rfl), pq_bd, if_pos rfl]
end PB8
