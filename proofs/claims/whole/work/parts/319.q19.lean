section PQPB
variable {rf : rc_F} {x m a cc nc Ln : Nat} {σ τ : rc_S} {T : Nat → Int32}
theorem pc_ring (a b : Int32) : (10 * a + b) - 48 = 10 * a + (b - 48) := by grind
/-- one round of the reference's loop over digits -/
theorem pc_n5 (hM : pq_M rf m) (h : pc_r τ m a cc 0 Ln T) (hL : Ln ≤ 60) (ha : a ≤ Ln) {K : Int32 → Int32 → rc_S → Option (Unit × rc_S)} {v1 most v d : Int32} {fu : Nat} (hm : ¬ most ≤ d) : f_X9_figure_5 rf m v1 most K (fu + 1) v d τ = if a < Ln ∧ ¬ T a < 48 ∧ ¬ 57 < T a then f_X9_figure_5 rf m v1 most K fu (10 * v + (T a - 48)) (d + 1) (rc_up τ m 18 (Int32.ofNat (a + 1))) else K v d τ := by
  have h21 := h.2.2.1
  have h18 := h.1
  rw [f_X9_figure_5, if_pos h21, if_neg hm, pc_he hM h hL ha, pq_bd, q9_in, pq_bd]
  by_cases hc : a < Ln
  · rw [if_pos hc]
    by_cases hd : ¬ T a < 48 ∧ ¬ 57 < T a
    · rw [if_pos hd, if_neg (by decide), pc_he hM h hL ha, pq_bd, if_pos hc, if_pos ⟨hc, hd.1, hd.2⟩, rc_lt, rc_lt, rc_lt, h18, pq_s, pc_ring]
    · rw [if_neg hd, if_pos rfl, if_neg (fun q => hd q.2)]
  · rw [if_neg hc, if_neg (show ¬ (¬ (-1 : Int32) < 48 ∧ ¬ (57 : Int32) < -1) by decide), if_pos rfl, if_neg (fun q => hc q.1)]
theorem pc_r18 (h : pc_r τ m a cc 0 Ln T) (a' : Nat) : pc_r (rc_up τ m 18 (Int32.ofNat a')) m a' cc 0 Ln T := by
  obtain ⟨h1, h2, h3, h4, hT⟩ := h
  exact ⟨by rw [pq_upE, pq_udE], by rw [pq_upE, pq_udN (by decide)]; exact h2, by rw [pq_upE, pq_udN (by decide)]; exact h3, by rw [pq_upE, pq_udN (by decide)]; exact h4, fun k hk => by rw [pq_upN (by omega)]; exact hT k hk⟩
theorem pc_rt {wr : Int32} (h : pc_r τ m a cc wr Ln T) {wr' v : Int32} {k : Nat} : pc_r (rc_up (rc_up τ m 21 wr') (m + 6) k v) m a cc wr' Ln T := by
  obtain ⟨h1, h2, h3, h4, hT⟩ := h
  exact ⟨by rw [pq_upN (by omega), pq_upE, pq_udN (by decide)]; exact h1, by rw [pq_upN (by omega), pq_upE, pq_udN (by decide)]; exact h2, by rw [pq_upN (by omega), pq_upE, pq_udE], by rw [pq_upN (by omega), pq_upE, pq_udN (by decide)]; exact h4, fun k hk => by rw [pq_upN (by omega), pq_upN (by omega)]; exact hT k hk⟩
theorem pc_rtG {wr' v : Int32} {k : Nat} (hk : 4 * cc + 1 ≤ k) (hk2 : k < 4 * cc + 4) : pc_G τ (rc_up (rc_up τ m 21 wr') (m + 6) k v) m (4 * cc + 1) := ⟨fun q q1 q2 => by rw [pq_upN q2, pq_upN q1], fun j j1 j2 => by rw [pq_upN (by omega), pq_upE, pq_udN j2], fun j hj => by rw [pq_upE, pq_udN (by omega), pq_upN (by omega)]⟩
theorem pc_18G {v : Int32} {lo : Nat} : pc_G τ (rc_up τ m 18 v) m lo := ⟨fun q q1 q2 => pq_upN q1, fun j j1 j2 => by rw [pq_upE, pq_udN j1], fun j _ => by rw [pq_upN (by omega)]⟩
/-- the reference reads a number: wrong, or it stands in the list -/
theorem pc_fg (hM : pq_M rf m) (h : pc_r τ m a cc 0 Ln T) (hL : Ln ≤ 60) (ha : a ≤ Ln) (hn : nc < 3) (hc : cc < 60) (most : Int32) (h12 : most = 1 ∨ most = 2) : ∃ τ', f_X9_figure rf m (Int32.ofNat (nc + 1)) most τ = some ((), τ') ∧ pc_G τ τ' m (4 * cc + 1) ∧ (∀ k, k ≠ 4 * cc + (nc + 1) → τ' (m + 6) k = τ (m + 6) k) ∧ ((¬ pc_D T Ln a ∧ pc_r τ' m a cc 1 Ln T) ∨ (pc_D T Ln a ∧ ∃ a' v, pc_r τ' m a' cc 0 Ln T ∧ τ' (m + 6) (4 * cc + (nc + 1)) = v ∧ ((a' = a + 1 ∧ v = T a - 48 ∧ (most = 1 ∨ ¬ pc_D T Ln (a + 1))) ∨ (a' = a + 2 ∧ most = 2 ∧ pc_D T Ln (a + 1) ∧ v = 10 * (T a - 48) + (T (a + 1) - 48))))) := by
  have hm0 : ¬ most ≤ 0 := by rcases h12 with e | e <;> subst e <;> decide
  have fin : ∀ (s : rc_S) (a' : Nat) (v d : Int32), pc_r s m a' cc 0 Ln T → (if (s m 21) = 0 then
      if d = 0 then
        rc_lt (rc_up s m 21 (1 : Int32)) fun σ_19 =>
        rc_ck (rc_in (((4 : Int32) * (σ_19 m 20)) + Int32.ofNat (nc + 1)) 240) <|
        rc_lt (rc_up σ_19 (rf m 8) (((4 : Int32) * (σ_19 m 20)) + Int32.ofNat (nc + 1)).toNatClampNeg v) fun σ_21 =>
        some ((), σ_21)
      else
        rc_lt (rc_up s m 21 (0 : Int32)) fun σ_16 =>
        rc_ck (rc_in (((4 : Int32) * (σ_16 m 20)) + Int32.ofNat (nc + 1)) 240) <|
        rc_lt (rc_up σ_16 (rf m 8) (((4 : Int32) * (σ_16 m 20)) + Int32.ofNat (nc + 1)).toNatClampNeg v) fun σ_18 =>
        some ((), σ_18)
    else
      rc_lt (rc_up s m 21 (1 : Int32)) fun σ_13 =>
      rc_ck (rc_in (((4 : Int32) * (σ_13 m 20)) + Int32.ofNat (nc + 1)) 240) <|
      rc_lt (rc_up σ_13 (rf m 8) (((4 : Int32) * (σ_13 m 20)) + Int32.ofNat (nc + 1)).toNatClampNeg v) fun σ_15 =>
      some ((), σ_15)) = some ((), rc_up (rc_up s m 21 (if d = 0 then 1 else 0)) (m + 6) (4 * cc + (nc + 1)) v) := by
    intro s a' v d hs
    obtain ⟨h1, h2, h3, h4, hT⟩ := hs
    rw [if_pos h3]
    by_cases hd : d = 0
    · rw [if_pos hd, if_pos hd, rc_lt, pq_upE, pq_udN (by decide), h2, pc_tx, pq_in (by omega) (by decide), pq_ck, pq_cl (by omega), pq_m8 hM, rc_lt]
    · rw [if_neg hd, if_neg hd, rc_lt, pq_upE, pq_udN (by decide), h2, pc_tx, pq_in (by omega) (by decide), pq_ck, pq_cl (by omega), pq_m8 hM, rc_lt]
  have fu : ∀ (s : rc_S) (wr v : Int32) (k : Nat), k ≠ 4 * cc + (nc + 1) → (rc_up (rc_up s m 21 wr) (m + 6) (4 * cc + (nc + 1)) v) (m + 6) k = s (m + 6) k := fun s wr v k hk => by rw [pq_upE, pq_udN hk, pq_upN (by omega)]
  rw [f_X9_figure, show rc_fu = 99997 + 1 + 1 + 1 from rfl, pc_n5 hM h hL ha hm0]
  by_cases hD : a < Ln ∧ ¬ T a < 48 ∧ ¬ 57 < T a
  · rw [if_pos hD, show (10 : Int32) * 0 + (T a - 48) = T a - 48 from by rw [Int32.mul_zero, Int32.zero_add], show (0 : Int32) + 1 = 1 from rfl]
    have h1 := pc_r18 h (a + 1)
    rcases h12 with e | e
    · subst e
      rw [f_X9_figure_5, if_pos h1.2.2.1, if_pos (by decide), fin _ (a + 1) _ 1 h1]
      exact ⟨_, rfl, pc_Gt pc_18G (pc_rtG (by omega) (by omega)), fun k hk => by rw [fu _ _ _ k hk, pq_upN (by omega)], Or.inr ⟨hD, a + 1, T a - 48, pc_rt h1, by rw [pq_upE, pq_udE], Or.inl ⟨rfl, rfl, Or.inl rfl⟩⟩⟩
    · subst e
      rw [pc_n5 hM h1 hL (by omega) (by decide)]
      by_cases hD2 : a + 1 < Ln ∧ ¬ T (a + 1) < 48 ∧ ¬ 57 < T (a + 1)
      · have h2 := pc_r18 h1 (a + 2)
        rw [if_pos hD2, show (1 : Int32) + 1 = 2 from rfl, f_X9_figure_5, if_pos h2.2.2.1, if_pos (by decide), fin _ (a + 2) _ 2 h2]
        exact ⟨_, rfl, pc_Gt (pc_Gt pc_18G pc_18G) (pc_rtG (by omega) (by omega)), fun k hk => by rw [fu _ _ _ k hk, pq_upN (by omega), pq_upN (by omega)], Or.inr ⟨hD, a + 2, 10 * (T a - 48) + (T (a + 1) - 48), pc_rt h2, by rw [pq_upE, pq_udE], Or.inr ⟨rfl, rfl, hD2, rfl⟩⟩⟩
      · rw [if_neg hD2, fin _ (a + 1) _ 1 h1]
        exact ⟨_, rfl, pc_Gt pc_18G (pc_rtG (by omega) (by omega)), fun k hk => by rw [fu _ _ _ k hk, pq_upN (by omega)], Or.inr ⟨hD, a + 1, T a - 48, pc_rt h1, by rw [pq_upE, pq_udE], Or.inl ⟨rfl, rfl, Or.inr hD2⟩⟩⟩
  · rw [if_neg hD, fin _ a _ 0 h]
    exact ⟨_, rfl, pc_rtG (by omega) (by omega), fun k hk => fu _ _ _ k hk, Or.inl ⟨hD, pc_rt h⟩⟩
theorem pc_fw (hM : pq_M rf m) (h : pc_r τ m a cc 1 Ln T) (hn : nc < 3) (hc : cc < 60) (most : Int32) : ∃ τ', f_X9_figure rf m (Int32.ofNat (nc + 1)) most τ = some ((), τ') ∧ pc_G τ τ' m (4 * cc + 1) ∧ pc_r τ' m a cc 1 Ln T := by
  have h2 := h
  obtain ⟨h1, h20, h3, h4, hT⟩ := h
  have hz : ¬ τ m 21 = 0 := by rw [h3]; decide
  refine ⟨rc_up (rc_up τ m 21 1) (m + 6) (4 * cc + (nc + 1)) 0, ?_, pc_rtG (by omega) (by omega), pc_rt h2⟩
  rw [f_X9_figure, show rc_fu = 99997 + 1 + 1 + 1 from rfl, f_X9_figure_5, if_neg hz, if_neg hz, rc_lt, pq_upE, pq_udN (by decide), h20, pc_tx, pq_in (by omega) (by decide), pq_ck, pq_cl (by omega), pq_m8 hM, rc_lt]
/-! a command's parts -/
def pc_rr (rf : rc_F) (m : Nat) : List Int32 → Nat → rc_S → Option (Unit × rc_S)
  | [], _, τ => some ((), τ)
  | p :: ps, k, τ => if p = 100 then rc_bd (f_X9_figure rf m (Int32.ofNat k) 1 τ) fun _ τ1 => pc_rr rf m ps (k + 1) τ1 else if p = 110 then rc_bd (f_X9_figure rf m (Int32.ofNat k) 2 τ) fun _ τ1 => pc_rr rf m ps (k + 1) τ1 else rc_bd (f_X9_sign rf m p τ) fun _ τ1 => pc_rr rf m ps k τ1
def pc_nn : List Int32 → Nat
  | [] => 0
  | p :: ps => (if p = 100 ∨ p = 110 then 1 else 0) + pc_nn ps
theorem pc_rrw (hM : pq_M rf m) (hc : cc < 60) : ∀ (ps : List Int32) (nc : Nat) (τ : rc_S), nc + pc_nn ps ≤ 3 → pc_r τ m a cc 1 Ln T → ∃ τ', pc_rr rf m ps (nc + 1) τ = some ((), τ') ∧ pc_G τ τ' m (4 * cc + 1) ∧ pc_r τ' m a cc 1 Ln T := by
  intro ps
  induction ps with
  | nil => intro nc τ _ h; exact ⟨τ, rfl, pc_Gr, h⟩
  | cons p ps ih =>
    intro nc τ hn h
    rw [pc_nn] at hn
    by_cases p1 : p = 100
    · rw [if_pos (Or.inl p1)] at hn
      obtain ⟨t1, e1, g1, r1⟩ := pc_fw (nc := nc) hM h (by omega) hc 1
      obtain ⟨t2, e2, g2, r2⟩ := ih (nc + 1) t1 (by omega) r1
      exact ⟨t2, by rw [pc_rr, if_pos p1, e1, pq_bd, e2], pc_Gt g1 g2, r2⟩
    · by_cases p2 : p = 110
      · rw [if_pos (Or.inr p2)] at hn
        obtain ⟨t1, e1, g1, r1⟩ := pc_fw (nc := nc) hM h (by omega) hc 2
        obtain ⟨t2, e2, g2, r2⟩ := ih (nc + 1) t1 (by omega) r1
        exact ⟨t2, by rw [pc_rr, if_neg p1, if_pos p2, e1, pq_bd, e2], pc_Gt g1 g2, r2⟩
      · obtain ⟨t1, e1, g1, r1⟩ := pc_sw (rf := rf) h (c := p)
        obtain ⟨t2, e2, g2, r2⟩ := ih nc t1 (by omega) r1
        exact ⟨t2, by rw [pc_rr, if_neg p1, if_neg p2, e1, pq_bd, e2], pc_Gt g1 g2, r2⟩
theorem pc_chk : ∀ r, r < 5 → (Int32.ofNat (rc_len.getD r 0)) >>> ((0 : Int32) &&& 31) = Int32.ofNat (rc_len.getD r 0) ∧ rc_len.getD r 0 ≤ 5 ∧ (rc_byt.getD r []).length = rc_len.getD r 0 ∧ ∀ i, i < rc_len.getD r 0 → (((((rc_byt.getD r []).getD i 0) &&& (255 : Int32)).toUInt32 % 65536).toInt32 = (rc_byt.getD r []).getD i 0 ∧ vp_nar .char ((rc_byt.getD r []).getD i 0) = (rc_byt.getD r []).getD i 0) := by decide
theorem pc_len {r : Nat} (hr : r < 5) : f_J0_length_8abf5 rf r σ = some (Int32.ofNat (rc_len.getD r 0), σ) := by
  rw [f_J0_length_8abf5, f_J0_coder_7d493, pq_bd, (pc_chk r hr).1]
theorem pc_chr {r i : Nat} (hr : r < 5) (hi : i < rc_len.getD r 0) : f_J0_charAt_5068e rf r (Int32.ofNat i) σ = some ((rc_byt.getD r []).getD i 0, σ) := by
  have c := pc_chk r hr
  have ci := c.2.2.2 i hi
  have l5 := c.2.1
  have hz : ¬ Int32.ofNat i < 0 := fun q => by have := (pq_lt (m := 0) (by omega) (by decide)).mp q; omega
  have hl : Int32.ofNat i < Int32.ofNat (rc_len.getD r 0) := (pq_lt (by omega) (by omega)).mpr hi
  rw [f_J0_charAt_5068e, f_J0_isLatin1_aae02, pq_bd, if_neg (by decide), f_J1_charAt_3b067, f_J0_checkIndex_df160, f_J3_checkIndex_8e157, if_neg hz, if_pos hl, pq_bd, pq_bd, pq_in hi (by omega), pq_ck, pq_cl (by omega), ci.1, pq_cd ci.2, pq_bd, pq_cd ci.2]
/-- a form is read by both, or by none -/
theorem pc_lock (hX : pq_X rf x) {r : Nat} (hr : r < 5) (hL : Ln ≤ 60) (hc : cc < 60) : ∀ (ps : List Int32) (i : Nat) (σ τ : rc_S) (a nc : Nat), (rc_byt.getD r []).drop i = ps → i + ps.length = rc_len.getD r 0 → nc + pc_nn ps ≤ 3 → (∀ p ∈ ps, p ≠ -1) → pc_c σ x a cc nc Ln T → pc_r τ (x + 308) a cc 0 Ln T → a ≤ Ln → (∀ z, z < nc → σ (x + 305) (3 * cc + z) = τ (x + 308 + 6) (4 * cc + (z + 1))) →
    (∃ σ' τ' a', (∀ (K : Int32 → rc_S → Option (Int32 × rc_S)) (fu : Nat), f_X6_readCommand_78 rf (x + 302) r K (fu + ps.length + 1) (Int32.ofNat i) σ = K (Int32.ofNat (rc_len.getD r 0)) σ') ∧ pc_rr rf (x + 308) ps (nc + 1) τ = some ((), τ') ∧ pc_c σ' x a' cc (nc + pc_nn ps) Ln T ∧ pc_r τ' (x + 308) a' cc 0 Ln T ∧ a ≤ a' ∧ a' ≤ Ln ∧ pc_F σ σ' x (3 * cc) ∧ pc_G τ τ' (x + 308) (4 * cc + 1) ∧ ∀ z, z < nc + pc_nn ps → σ' (x + 305) (3 * cc + z) = τ' (x + 308 + 6) (4 * cc + (z + 1))) ∨
    (∃ σ' τ' a' nc', (∀ (K : Int32 → rc_S → Option (Int32 × rc_S)) (fu : Nat), f_X6_readCommand_78 rf (x + 302) r K (fu + ps.length + 1) (Int32.ofNat i) σ = some (0, σ')) ∧ pc_rr rf (x + 308) ps (nc + 1) τ = some ((), τ') ∧ pc_c σ' x a' cc nc' Ln T ∧ pc_r τ' (x + 308) a' cc 1 Ln T ∧ a ≤ a' ∧ a' ≤ Ln ∧ pc_F σ σ' x (3 * cc) ∧ pc_G τ τ' (x + 308) (4 * cc + 1)) := by
  have hM := pq_xm hX
  have hlen := (pc_chk r hr).2.2.1
  have hl5 := (pc_chk r hr).2.1
  intro ps
  induction ps with
  | nil =>
    intro i σ τ a nc hd hi hn hp h1 h2 ha hz
    refine Or.inl ⟨σ, τ, a, fun K fu => ?_, rfl, h1, h2, Nat.le_refl _, ha, pc_Fr, pc_Gr, fun z hz' => hz z (by rw [pc_nn] at hz'; omega)⟩
    have e : i = rc_len.getD r 0 := by simpa using hi
    rw [f_X6_readCommand_78, pc_len hr, pq_bd, ← e, if_pos (Int32.le_refl _)]
  | cons p ps ih =>
    intro i σ τ a nc hd hi hn hp h1 h2 ha hz
    rw [List.length_cons] at hi
    have hil : i < rc_len.getD r 0 := by omega
    have hpi : (rc_byt.getD r []).getD i 0 = p := by
      have e : (rc_byt.getD r [])[i]? = some p := by
        have q : ((rc_byt.getD r []).drop i)[0]? = some p := by rw [hd]; rfl
        rw [List.getElem?_drop] at q
        exact q
      rw [List.getD_eq_getElem?_getD, e]; rfl
    have hd2 : (rc_byt.getD r []).drop (i + 1) = ps := by
      have q : ((rc_byt.getD r []).drop i).drop 1 = ps := by rw [hd]; rfl
      rw [List.drop_drop] at q
      exact q
    have hp1 : p ≠ -1 := hp p List.mem_cons_self
    have hps : ∀ p ∈ ps, p ≠ -1 := fun q hq => hp q (List.mem_cons_of_mem _ hq)
    have hni : ¬ Int32.ofNat (rc_len.getD r 0) ≤ Int32.ofNat i := fun q => by have := (pq_le (by omega) (by omega)).mp q; omega
    have head : ∀ (K : Int32 → rc_S → Option (Int32 × rc_S)) (fu : Nat), f_X6_readCommand_78 rf (x + 302) r K (fu + (p :: ps).length + 1) (Int32.ofNat i) σ = rc_bd (f_X6_readPart rf (x + 302) p σ) fun w_10 σ_10 => if w_10 = 0 then some ((0 : Int32), σ_10) else rc_lt (Int32.ofNat i + 1) fun v2_11 => f_X6_readCommand_78 rf (x + 302) r K (fu + ps.length + 1) v2_11 σ_10 := fun K fu => by
      rw [show fu + (p :: ps).length + 1 = (fu + ps.length + 1) + 1 from rfl, f_X6_readCommand_78, pc_len hr, pq_bd, if_neg hni, pc_chr hr hil, pq_bd, hpi]
    by_cases hpp : p = 100 ∨ p = 110
    · obtain ⟨most, hm, hrp, hrr⟩ : ∃ most : Int32, (most = 1 ∨ most = 2) ∧ (∀ s, f_X6_readPart rf (x + 302) p s = rc_bd (f_X6_readNumber rf (x + 302) most s) fun w_2 σ_2 => rc_ck (decide (vp_nar .boolean w_2 = w_2)) <| some (w_2, σ_2)) ∧ (∀ k s, pc_rr rf (x + 308) (p :: ps) k s = rc_bd (f_X9_figure rf (x + 308) (Int32.ofNat k) most s) fun _ τ1 => pc_rr rf (x + 308) ps (k + 1) τ1) := by
        by_cases p1 : p = 100
        · exact ⟨1, Or.inl rfl, fun s => by rw [f_X6_readPart, if_pos p1], fun k s => by rw [pc_rr, if_pos p1]⟩
        · have p2 : p = 110 := by rcases hpp with q | q; exact absurd q p1; exact q
          exact ⟨2, Or.inr rfl, fun s => by rw [f_X6_readPart, if_neg p1, if_pos p2], fun k s => by rw [pc_rr, if_neg p1, if_pos p2]⟩
      have hn2 : nc + 1 + pc_nn ps ≤ 3 := by rw [pc_nn, if_pos hpp] at hn; omega
      have hnn : nc + pc_nn (p :: ps) = nc + 1 + pc_nn ps := by rw [pc_nn, if_pos hpp]; omega
      obtain ⟨t1, f1, f2, f3, f4⟩ := pc_fg (nc := nc) hM h2 hL ha (by omega) hc most hm
      rcases pc_nm hX h1 hL ha (show nc < 3 by omega) hc most hm with ⟨hD, e1⟩ | ⟨hD, s1, a1, v1, e1, e2, e3, e4, e5, e6, e7, e8⟩
      · rcases f4 with ⟨-, r1⟩ | ⟨hD2, -⟩
        · obtain ⟨t2, g1, g2, g3⟩ := pc_rrw (nc := nc + 1) hM hc ps t1 hn2 r1
          refine Or.inr ⟨σ, t2, a, nc, fun K fu => ?_, by rw [hrr, f1, pq_bd, g1], h1, g3, Nat.le_refl _, ha, pc_Fr, pc_Gt f2 g2⟩
          rw [head, hrp, e1, pq_bd, pq_cd (by decide), pq_bd, if_pos rfl]
        · exact absurd hD2 hD
      · rcases f4 with ⟨hD2, -⟩ | ⟨-, a2, v2, r1, r2, r3⟩
        · exact absurd hD hD2
        · have hav : a2 = a1 ∧ v2 = v1 := by
            rcases e8 with ⟨x1, x2, x3⟩ | ⟨x1, x2, x3, x4⟩ <;> rcases r3 with ⟨y1, y2, y3⟩ | ⟨y1, y2, y3, y4⟩
            · exact ⟨by omega, by rw [x2, y2]⟩
            · rcases x3 with x3 | x3
              · rw [x3] at y2; exact absurd y2 (by decide)
              · exact absurd y3 x3
            · rcases y3 with y3 | y3
              · rw [y3] at x2; exact absurd x2 (by decide)
              · exact absurd x3 y3
            · exact ⟨by omega, by rw [x4, y4]⟩
          obtain ⟨rfl, rfl⟩ := hav
          have hz2 : ∀ z, z < nc + 1 → s1 (x + 305) (3 * cc + z) = t1 (x + 308 + 6) (4 * cc + (z + 1)) := fun z hz' => by
            by_cases e : z = nc
            · subst e; rw [e6, r2]
            · rw [e7 _ (by omega), f3 _ (by omega)]; exact hz z (by omega)
          rcases ih (i + 1) s1 t1 a2 (nc + 1) hd2 (by omega) hn2 hps e2 r1 e4 hz2 with ⟨s2, t2, a3, g1, g2, g3, g4, g5, g6, g7, g8, g9⟩ | ⟨s2, t2, a3, nc3, g1, g2, g3, g4, g5, g6, g7, g8⟩
          · refine Or.inl ⟨s2, t2, a3, fun K fu => ?_, by rw [hrr, f1, pq_bd, g2], by rw [hnn]; exact g3, g4, by omega, g6, pc_Ft e5 g7, pc_Gt f2 g8, by rw [hnn]; exact g9⟩
            rw [head, hrp, e1, pq_bd, pq_cd (by decide), pq_bd, if_neg (by decide), rc_lt, pq_s, g1]
          · refine Or.inr ⟨s2, t2, a3, nc3, fun K fu => ?_, by rw [hrr, f1, pq_bd, g2], g3, g4, by omega, g6, pc_Ft e5 g7, pc_Gt f2 g8⟩
            rw [head, hrp, e1, pq_bd, pq_cd (by decide), pq_bd, if_neg (by decide), rc_lt, pq_s, g1]
    · have p1 : p ≠ 100 := fun q => hpp (Or.inl q)
      have p2 : p ≠ 110 := fun q => hpp (Or.inr q)
      have hrp : ∀ s, f_X6_readPart rf (x + 302) p s = rc_bd (f_X6_readSign rf (x + 302) p s) fun w_2 σ_2 => rc_ck (decide (vp_nar .boolean w_2 = w_2)) <| some (w_2, σ_2) := fun s => by rw [f_X6_readPart, if_neg p1, if_neg p2]
      have hrr : ∀ k s, pc_rr rf (x + 308) (p :: ps) k s = rc_bd (f_X9_sign rf (x + 308) p s) fun _ τ1 => pc_rr rf (x + 308) ps k τ1 := fun k s => by rw [pc_rr, if_neg p1, if_neg p2]
      have hnn : pc_nn (p :: ps) = pc_nn ps := by rw [pc_nn, if_neg (fun q => by rcases q with q | q; exact p1 q; exact p2 q), Nat.zero_add]
      rw [hnn] at hn ⊢
      obtain ⟨t1, f1, f2, f3, f4⟩ := pc_sr hM h2 hL ha hp1
      have e1 := pc_sg hX h1 hL ha p
      rcases f4 with ⟨k1, k2, r1⟩ | ⟨k1, r1⟩
      · rw [if_pos ⟨k1, k2⟩] at e1
        rcases ih (i + 1) _ t1 (a + 1) nc hd2 (by omega) hn hps (pc_cu h1) r1 (by omega) (fun z hz' => by rw [pq_upN (by omega), f3]; exact hz z hz') with ⟨s2, t2, a3, g1, g2, g3, g4, g5, g6, g7, g8, g9⟩ | ⟨s2, t2, a3, nc3, g1, g2, g3, g4, g5, g6, g7, g8⟩
        · refine Or.inl ⟨s2, t2, a3, fun K fu => ?_, by rw [hrr, f1, pq_bd, g2], g3, g4, by omega, g6, pc_Ft pc_cF g7, pc_Gt f2 g8, g9⟩
          rw [head, hrp, e1, pq_bd, pq_cd (by decide), pq_bd, if_neg (by decide), rc_lt, pq_s, g1]
        · refine Or.inr ⟨s2, t2, a3, nc3, fun K fu => ?_, by rw [hrr, f1, pq_bd, g2], g3, g4, by omega, g6, pc_Ft pc_cF g7, pc_Gt f2 g8⟩
          rw [head, hrp, e1, pq_bd, pq_cd (by decide), pq_bd, if_neg (by decide), rc_lt, pq_s, g1]
      · rw [if_neg k1] at e1
        obtain ⟨t2, g1, g2, g3⟩ := pc_rrw (nc := nc) hM hc ps t1 hn r1
        refine Or.inr ⟨σ, t2, a, nc, fun K fu => ?_, by rw [hrr, f1, pq_bd, g1], h1, g3, Nat.le_refl _, ha, pc_Fr, pc_Gt f2 g2⟩
        rw [head, hrp, e1, pq_bd, pq_cd (by decide), pq_bd, if_pos rfl]
end PQPB
