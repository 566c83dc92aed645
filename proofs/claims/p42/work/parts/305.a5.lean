/-! reading commands from the text, both sides -/
def pc_c (σ : rc_S) (x a cc nc Ln : Nat) (T : Nat → Int32) : Prop := σ (x + 302) 5 = Int32.ofNat a ∧ σ (x + 302) 4 = Int32.ofNat cc ∧ σ (x + 302) 6 = Int32.ofNat nc ∧ σ (x + 302) 1 = Int32.ofNat Ln ∧ ∀ k, k < Ln → σ (x + 303) k = T k
def pc_D (T : Nat → Int32) (Ln a : Nat) : Prop := a < Ln ∧ ¬ T a < 48 ∧ ¬ 57 < T a
/-- what reading may change: the class, the reference -/
def pc_F (σ σ' : rc_S) (x lo : Nat) : Prop := (∀ q, q ≠ x + 302 → q ≠ x + 305 → σ' q = σ q) ∧ (∀ j, j ≠ 5 → j ≠ 6 → σ' (x + 302) j = σ (x + 302) j) ∧ ∀ k, (k < lo ∨ lo + 3 ≤ k) → σ' (x + 305) k = σ (x + 305) k
section PQP
variable {rf : rc_F} {x m a cc nc Ln : Nat} {σ τ : rc_S} {T : Nat → Int32}
theorem pc_Fr {lo : Nat} : pc_F σ σ x lo := ⟨fun _ _ _ => rfl, fun _ _ _ => rfl, fun _ _ => rfl⟩
theorem pc_Ft {σ1 σ2 : rc_S} {lo : Nat} (h : pc_F σ σ1 x lo) (h2 : pc_F σ1 σ2 x lo) : pc_F σ σ2 x lo := ⟨fun q a b => (h2.1 q a b).trans (h.1 q a b), fun q a b => (h2.2.1 q a b).trans (h.2.1 q a b), fun q a => (h2.2.2 q a).trans (h.2.2 q a)⟩
theorem pc_nx {cc nc : Nat} : Int32.ofNat cc * 3 + Int32.ofNat nc = Int32.ofNat (3 * cc + nc) := by rw [Int32.ofNat_add, Int32.ofNat_mul, Int32.mul_comm]; rfl
theorem pc_sg (hX : pq_X rf x) (h : pc_c σ x a cc nc Ln T) (hL : Ln ≤ 60) (ha : a ≤ Ln) (c : Int32) : f_X6_readSign rf (x + 302) c σ = if a < Ln ∧ T a = c then some (1, rc_up σ (x + 302) 5 (Int32.ofNat (a + 1))) else some (0, σ) := by
  obtain ⟨h5, h4, h6, h1, hT⟩ := h
  rw [f_X6_readSign, h1, h5]
  by_cases hc : a < Ln
  · rw [if_neg (show ¬ Int32.ofNat Ln ≤ Int32.ofNat a from fun q => by have := (pq_le (by omega) (by omega)).mp q; omega), pq_in (by omega) (by decide), pq_ck, pq_t0 hX, pq_cl (by omega), hT a hc, pq_s, rc_lt]
    by_cases h2 : T a = c
    · rw [if_pos h2, if_pos ⟨hc, h2⟩]
    · rw [if_neg h2, if_neg (fun q => h2 q.2)]
  · rw [if_pos (show Int32.ofNat Ln ≤ Int32.ofNat a from (pq_le (by omega) (by omega)).mpr (by omega)), if_neg (fun q => hc q.1)]
/-- one round of the class's loop over digits -/
theorem pc_n4 (hX : pq_X rf x) (h : pc_c σ x a cc nc Ln T) (hL : Ln ≤ 60) (ha : a ≤ Ln) {K : Int32 → Int32 → rc_S → Option (Int32 × rc_S)} {most v d : Int32} {fu : Nat} (hm : ¬ most ≤ d) : f_X6_readNumber_4 rf (x + 302) most K (fu + 1) v d σ = if a < Ln ∧ ¬ T a < 48 ∧ ¬ 57 < T a then f_X6_readNumber_4 rf (x + 302) most K fu (10 * v + (T a - 48)) (d + 1) (rc_up σ (x + 302) 5 (Int32.ofNat (a + 1))) else K v d σ := by
  obtain ⟨h5, h4, h6, h1, hT⟩ := h
  rw [f_X6_readNumber_4, if_neg hm, h1, h5]
  by_cases hc : a < Ln
  · rw [if_neg (show ¬ Int32.ofNat Ln ≤ Int32.ofNat a from fun q => by have := (pq_le (by omega) (by omega)).mp q; omega), pq_in (by omega) (by decide), pq_ck, pq_ck, pq_ck, pq_t0 hX, pq_cl (by omega), hT a hc, pq_s]
    simp only [rc_lt]
    by_cases h2 : T a < 48
    · rw [if_pos h2, if_neg (fun q => q.2.1 h2)]
    · by_cases h3 : 57 < T a
      · rw [if_neg h2, if_pos h3, if_neg (fun q => q.2.2 h3)]
      · rw [if_neg h2, if_neg h3, if_pos ⟨hc, h2, h3⟩]
  · rw [if_pos (show Int32.ofNat Ln ≤ Int32.ofNat a from (pq_le (by omega) (by omega)).mpr (by omega)), if_neg (fun q => hc q.1)]
theorem pc_cu (h : pc_c σ x a cc nc Ln T) : pc_c (rc_up σ (x + 302) 5 (Int32.ofNat (a + 1))) x (a + 1) cc nc Ln T := by
  obtain ⟨h5, h4, h6, h1, hT⟩ := h
  exact ⟨by rw [pq_upE, pq_udE], by rw [pq_upE, pq_udN (by decide)]; exact h4, by rw [pq_upE, pq_udN (by decide)]; exact h6, by rw [pq_upE, pq_udN (by decide)]; exact h1, fun k hk => by rw [pq_upN (by omega)]; exact hT k hk⟩
theorem pc_cF {lo : Nat} {v : Int32} : pc_F σ (rc_up σ (x + 302) 5 v) x lo := ⟨fun q a b => pq_upN a, fun j a b => by rw [pq_upE, pq_udN a], fun k _ => by rw [pq_upN (by omega)]⟩
/-- the class reads a number: none, or it stands in the list -/
theorem pc_nm (hX : pq_X rf x) (h : pc_c σ x a cc nc Ln T) (hL : Ln ≤ 60) (ha : a ≤ Ln) (hn : nc < 3) (hc : cc < 60) (most : Int32) (h12 : most = 1 ∨ most = 2) : (¬ pc_D T Ln a ∧ f_X6_readNumber rf (x + 302) most σ = some (0, σ)) ∨ (pc_D T Ln a ∧ ∃ σ' a' v, f_X6_readNumber rf (x + 302) most σ = some (1, σ') ∧ pc_c σ' x a' cc (nc + 1) Ln T ∧ a < a' ∧ a' ≤ Ln ∧ pc_F σ σ' x (3 * cc) ∧ σ' (x + 305) (3 * cc + nc) = v ∧ (∀ k, k ≠ 3 * cc + nc → σ' (x + 305) k = σ (x + 305) k) ∧ ((a' = a + 1 ∧ v = T a - 48 ∧ (most = 1 ∨ ¬ pc_D T Ln (a + 1))) ∨ (a' = a + 2 ∧ most = 2 ∧ pc_D T Ln (a + 1) ∧ v = 10 * (T a - 48) + (T (a + 1) - 48)))) := by
  have hm0 : ¬ most ≤ 0 := by rcases h12 with e | e <;> subst e <;> decide
  -- what stands at the end
  have fin : ∀ (s : rc_S) (a' : Nat) (v d : Int32), d ≠ 0 → pc_c s x a' cc nc Ln T → (if d = 0 then some ((0 : Int32), s) else rc_ck (rc_in ((s (x + 302) 4) * (3 : Int32) + (s (x + 302) 6)) 180) <| rc_lt (rc_up s (rf (x + 302) 3) ((s (x + 302) 4) * (3 : Int32) + (s (x + 302) 6)).toNatClampNeg v) fun σ_15 => rc_lt (rc_up σ_15 (x + 302) 6 ((σ_15 (x + 302) 6) + (1 : Int32))) fun σ_16 => some ((1 : Int32), σ_16)) = some (1, rc_up (rc_up s (x + 305) (3 * cc + nc) v) (x + 302) 6 (Int32.ofNat (nc + 1))) := by
    intro s a' v d hd hs
    obtain ⟨h5, h4, h6, h1, hT⟩ := hs
    rw [if_neg hd, h4, h6, pc_nx, pq_in (by omega) (by decide), pq_ck, pq_cl (by omega), pq_t3 hX, rc_lt, rc_lt, pq_upN (by omega), h6, pq_s]
  have fc : ∀ (s : rc_S) (a' : Nat) (v : Int32), pc_c s x a' cc nc Ln T → pc_c (rc_up (rc_up s (x + 305) (3 * cc + nc) v) (x + 302) 6 (Int32.ofNat (nc + 1))) x a' cc (nc + 1) Ln T := by
    intro s a' v hs
    obtain ⟨h5, h4, h6, h1, hT⟩ := hs
    exact ⟨by rw [pq_upE, pq_udN (by decide), pq_upN (by omega)]; exact h5, by rw [pq_upE, pq_udN (by decide), pq_upN (by omega)]; exact h4, by rw [pq_upE, pq_udE], by rw [pq_upE, pq_udN (by decide), pq_upN (by omega)]; exact h1, fun k hk => by rw [pq_upN (by omega), pq_upN (by omega)]; exact hT k hk⟩
  have ff : ∀ (s : rc_S) (v : Int32), pc_F s (rc_up (rc_up s (x + 305) (3 * cc + nc) v) (x + 302) 6 (Int32.ofNat (nc + 1))) x (3 * cc) := fun s v => ⟨fun q q1 q2 => by rw [pq_upN q1, pq_upN q2], fun j j1 j2 => by rw [pq_upE, pq_udN j2, pq_upN (by omega)], fun k hk => by rw [pq_upN (by omega), pq_upE, pq_udN (by omega)]⟩
  rw [f_X6_readNumber, show rc_fu = 99997 + 1 + 1 + 1 from rfl, pc_n4 hX h hL ha hm0]
  by_cases hD : a < Ln ∧ ¬ T a < 48 ∧ ¬ 57 < T a
  · refine Or.inr ⟨hD, ?_⟩
    rw [if_pos hD, show (10 : Int32) * 0 + (T a - 48) = T a - 48 from by rw [Int32.mul_zero, Int32.zero_add], show (0 : Int32) + 1 = 1 from rfl]
    have h1 := pc_cu h
    rcases h12 with e | e
    · subst e
      rw [f_X6_readNumber_4, if_pos (by decide), fin _ (a + 1) (T a - 48) 1 (by decide) h1]
      exact ⟨_, a + 1, T a - 48, rfl, fc _ _ _ h1, by omega, by omega, pc_Ft pc_cF (ff _ _), by rw [pq_upN (by omega), pq_upE, pq_udE], fun k hk => by rw [pq_upN (by omega), pq_upE, pq_udN hk, pq_upN (by omega)], Or.inl ⟨rfl, rfl, Or.inl rfl⟩⟩
    · subst e
      rw [pc_n4 hX h1 hL (by omega) (by decide)]
      by_cases hD2 : a + 1 < Ln ∧ ¬ T (a + 1) < 48 ∧ ¬ 57 < T (a + 1)
      · have h2 := pc_cu h1
        rw [if_pos hD2, show (1 : Int32) + 1 = 2 from rfl, f_X6_readNumber_4, if_pos (by decide), fin _ (a + 2) _ 2 (by decide) h2]
        exact ⟨_, a + 2, 10 * (T a - 48) + (T (a + 1) - 48), rfl, fc _ _ _ h2, by omega, by omega, pc_Ft (pc_Ft pc_cF pc_cF) (ff _ _), by rw [pq_upN (by omega), pq_upE, pq_udE], fun k hk => by rw [pq_upN (by omega), pq_upE, pq_udN hk, pq_upN (by omega), pq_upN (by omega)], Or.inr ⟨rfl, rfl, hD2, rfl⟩⟩
      · rw [if_neg hD2, fin _ (a + 1) (T a - 48) 1 (by decide) h1]
        exact ⟨_, a + 1, T a - 48, rfl, fc _ _ _ h1, by omega, by omega, pc_Ft pc_cF (ff _ _), by rw [pq_upN (by omega), pq_upE, pq_udE], fun k hk => by rw [pq_upN (by omega), pq_upE, pq_udN hk, pq_upN (by omega)], Or.inl ⟨rfl, rfl, Or.inr hD2⟩⟩
  · refine Or.inl ⟨hD, ?_⟩
    rw [if_neg hD, if_pos rfl]
/-! the reference -/
end PQP

section PQPB
variable {rf : rc_F} {x m a cc nc Ln : Nat} {σ τ : rc_S} {T : Nat → Int32}
/-! a command's parts -/
def pc_nn : List Int32 → Nat
  | [] => 0
  | p :: ps => (if p = 100 ∨ p = 110 then 1 else 0) + pc_nn ps
theorem pc_chk : ∀ r, r < 5 → (Int32.ofNat (rc_len.getD r 0)) >>> ((0 : Int32) &&& 31) = Int32.ofNat (rc_len.getD r 0) ∧ rc_len.getD r 0 ≤ 5 ∧ (rc_byt.getD r []).length = rc_len.getD r 0 ∧ ∀ i, i < rc_len.getD r 0 → (((((rc_byt.getD r []).getD i 0) &&& (255 : Int32)).toUInt32 % 65536).toInt32 = (rc_byt.getD r []).getD i 0 ∧ vp_nar .char ((rc_byt.getD r []).getD i 0) = (rc_byt.getD r []).getD i 0) := by decide
theorem pc_len {r : Nat} (hr : r < 5) : f_J0_length_8abf5 rf r σ = some (Int32.ofNat (rc_len.getD r 0), σ) := by
  rw [f_J0_length_8abf5, f_J0_coder_7d493, pq_bd, (pc_chk r hr).1]
theorem pc_chr {r i : Nat} (hr : r < 5) (hi : i < rc_len.getD r 0) : f_J0_charAt_5068e rf r (Int32.ofNat i) σ = some ((rc_byt.getD r []).getD i 0, σ) := by
  have c := pc_chk r hr
  have ci := c.2.2.2 i hi
  have l5 := c.2.1
  have hz : ¬ Int32.ofNat i < 0 := fun q => by have := (pq_lt (m := 0) (by omega) (by decide)).mp q; omega
  have hl : Int32.ofNat i < Int32.ofNat (rc_len.getD r 0) := (pq_lt (by omega) (by omega)).mpr hi
  rw [f_J0_charAt_5068e, f_J0_isLatin1_aae02, pq_bd, if_neg (by decide), f_J1_charAt_3b067, f_J0_checkIndex_df160, f_J3_checkIndex_8e157, if_neg hz, if_pos hl, pq_bd, pq_bd, pq_in hi (by omega), pq_ck, pq_cl (by omega), ci.1, pq_cd ci.2, pq_bd, pq_cd ci.2]
end PQPB

def pc_fo (w : Int32) : Nat := if w = 98 then 4 else if w = 99 then 4 else if w = 103 then 4 else if w = 104 then 2 else if w = 108 then 4 else if w = 109 then 4 else if w = 112 then 1 else if w = 115 then 0 else if w = 116 then 4 else if w = 120 then 4 else if w = 121 then 3 else 5
def pc_fm (r : Nat) : List Int32 := rc_byt.getD r []
/-- what reading may change altogether -/
def pc_F2 (σ σ' : rc_S) (x : Nat) : Prop := (∀ q, q ≠ x + 302 → q ≠ x + 304 → q ≠ x + 305 → σ' q = σ q) ∧ ∀ j, j ≠ 4 → j ≠ 5 → j ≠ 6 → σ' (x + 302) j = σ (x + 302) j
section PQPC
variable {rf : rc_F} {x m a cc nc Ln : Nat} {σ τ : rc_S} {T : Nat → Int32}
theorem pc_F2r : pc_F2 σ σ x := ⟨fun _ _ _ _ => rfl, fun _ _ _ _ => rfl⟩
theorem pc_F2t {σ1 σ2 : rc_S} (h : pc_F2 σ σ1 x) (h2 : pc_F2 σ1 σ2 x) : pc_F2 σ σ2 x := ⟨fun q a b c => (h2.1 q a b c).trans (h.1 q a b c), fun q a b c => (h2.2 q a b c).trans (h.2 q a b c)⟩
theorem pc_fof {w : Int32} (h : pc_fo w < 5) : f_X6_formOf rf w σ = some (pc_fo w, σ) := by
  by_cases c98 : w = 98
  · rw [c98]; rfl
  by_cases c99 : w = 99
  · rw [c99]; rfl
  by_cases c103 : w = 103
  · rw [c103]; rfl
  by_cases c104 : w = 104
  · rw [c104]; rfl
  by_cases c108 : w = 108
  · rw [c108]; rfl
  by_cases c109 : w = 109
  · rw [c109]; rfl
  by_cases c112 : w = 112
  · rw [c112]; rfl
  by_cases c115 : w = 115
  · rw [c115]; rfl
  by_cases c116 : w = 116
  · rw [c116]; rfl
  by_cases c120 : w = 120
  · rw [c120]; rfl
  by_cases c121 : w = 121
  · rw [c121]; rfl
  unfold pc_fo at h
  rw [if_neg c98, if_neg c99, if_neg c103, if_neg c104, if_neg c108, if_neg c109, if_neg c112, if_neg c115, if_neg c116, if_neg c120, if_neg c121] at h
  exact absurd h (by decide)
/-- the letters: where one stands in their text, or -1 -/
def pc_ix (v : Int32) : List Int32 → Nat → Int32
  | [], _ => -1
  | b :: bs, i => if b = v then Int32.ofNat i else pc_ix v bs (i + 1)
theorem pc_ixl (v : Int32) : ∀ (ps : List Int32) (i fu : Nat), (rc_byt.getD 5 []).drop i = ps → i + ps.length = 11 → f_J1_indexOfChar_4cfef_7 rf 5 (Int32.ofNat 11) v (fun _ σ_7 => some ((-1 : Int32), σ_7)) (fu + ps.length + 1) (Int32.ofNat i) σ = some (pc_ix v ps i, σ) := by
  intro ps
  induction ps with
  | nil =>
    intro i fu hd hi
    have e : i = 11 := by simpa using hi
    subst e
    rw [f_J1_indexOfChar_4cfef_7, if_pos (Int32.le_refl _), pc_ix]
  | cons p ps ih =>
    intro i fu hd hi
    rw [List.length_cons] at hi
    have hpi : (rc_byt.getD 5 []).getD i 0 = p := by
      have e : (rc_byt.getD 5 [])[i]? = some p := by
        have q : ((rc_byt.getD 5 []).drop i)[0]? = some p := by rw [hd]; rfl
        rw [List.getElem?_drop] at q
        exact q
      rw [List.getD_eq_getElem?_getD, e]; rfl
    have hd2 : (rc_byt.getD 5 []).drop (i + 1) = ps := by
      have q : ((rc_byt.getD 5 []).drop i).drop 1 = ps := by rw [hd]; rfl
      rw [List.drop_drop] at q
      exact q
    have hni : ¬ Int32.ofNat 11 ≤ Int32.ofNat i := fun q => by have := (pq_le (by decide) (by omega)).mp q; omega
    have hr : rc_len.getD 5 0 = 11 := rfl
    rw [show fu + (p :: ps).length + 1 = (fu + ps.length + 1) + 1 from rfl, f_J1_indexOfChar_4cfef_7, if_neg hni, hr, pq_in (by omega) (by decide), pq_ck, pq_cl (by omega), hpi, pc_ix]
    by_cases c : p = v
    · rw [if_pos c, if_pos c]
    · rw [if_neg c, if_neg c, rc_lt, pq_s]
      exact ih (i + 1) fu hd2 (by omega)
theorem pc_ixd : ∀ n, n < 256 → (0 ≤ pc_ix (Int32.ofNat n).toInt8.toInt32 (rc_byt.getD 5 []) 0 ↔ pc_fo (Int32.ofNat n) < 5) := by decide +kernel
theorem pc_foR {w : Int32} (h : pc_fo w < 5) : ¬ w < 0 ∧ ¬ 255 < w := by
  by_cases c98 : w = 98
  · subst c98; decide
  by_cases c99 : w = 99
  · subst c99; decide
  by_cases c103 : w = 103
  · subst c103; decide
  by_cases c104 : w = 104
  · subst c104; decide
  by_cases c108 : w = 108
  · subst c108; decide
  by_cases c109 : w = 109
  · subst c109; decide
  by_cases c112 : w = 112
  · subst c112; decide
  by_cases c115 : w = 115
  · subst c115; decide
  by_cases c116 : w = 116
  · subst c116; decide
  by_cases c120 : w = 120
  · subst c120; decide
  by_cases c121 : w = 121
  · subst c121; decide
  unfold pc_fo at h
  rw [if_neg c98, if_neg c99, if_neg c103, if_neg c104, if_neg c108, if_neg c109, if_neg c112, if_neg c115, if_neg c116, if_neg c120, if_neg c121] at h
  exact absurd h (by decide)
theorem pc_ln5 : f_J0_length_8abf5 rf 5 σ = some (Int32.ofNat 11, σ) := by
  rw [f_J0_length_8abf5, f_J0_coder_7d493, pq_bd, show (Int32.ofNat (rc_len.getD 5 0)) >>> ((0 : Int32) &&& 31) = Int32.ofNat 11 by decide]
/-- String.indexOf in the text of the letters -/
theorem pc_ixo (w : Int32) : ∃ r, f_J0_indexOf_0f7a4 rf 5 w σ = some (r, σ) ∧ (0 ≤ r ↔ pc_fo w < 5) := by
  have go : f_J0_indexOf_0f7a4 rf 5 w σ = rc_bd (rc_bd (f_J1_indexOf_4cfef rf 5 w 0 (Int32.ofNat 11) σ) fun w_4 σ_4 => some (w_4, σ_4)) fun w_1 σ_1 => some (w_1, σ_1) := by
    rw [f_J0_indexOf_0f7a4, f_J0_indexOf_7cf53, f_J0_isLatin1_aae02, pq_bd, if_neg (by decide), pc_ln5, pq_bd]
  by_cases h0 : w < 0
  · refine ⟨-1, ?_, fun q => absurd q (by decide), fun q => absurd h0 (pc_foR q).1⟩
    rw [go, f_J1_indexOf_4cfef, f_J1_canEncode_9a6ad, if_pos h0, pq_bd, if_pos rfl, pq_bd, pq_bd]
  by_cases h1 : 255 < w
  · refine ⟨-1, ?_, fun q => absurd q (by decide), fun q => absurd h1 (pc_foR q).2⟩
    rw [go, f_J1_indexOf_4cfef, f_J1_canEncode_9a6ad, if_neg h0, if_pos h1, pq_bd, if_pos rfl, pq_bd, pq_bd]
  obtain ⟨n, hn, rfl⟩ := pq_nat (n := 256) h0 (show w < (256 : Int32) by grind) (by decide)
  refine ⟨_, ?_, pc_ixd n hn⟩
  have l := pc_ixl (rf := rf) (σ := σ) (Int32.ofNat n).toInt8.toInt32 (rc_byt.getD 5 []) 0 (99999 - 11) rfl rfl
  rw [show (rc_byt.getD 5 []).length = 11 from rfl, ← pq_fu 11 (by decide), show Int32.ofNat 0 = (0 : Int32) from rfl] at l
  rw [go, f_J1_indexOf_4cfef, f_J1_canEncode_9a6ad, if_neg h0, if_neg h1, pq_bd, if_neg (by decide), rc_lt, rc_lt, show (if (0 : Int32) < 0 then (0 : Int32) else 0) = 0 from rfl, show Int32.ofNat (rc_len.getD 5 0) = Int32.ofNat 11 from rfl, show (if Int32.ofNat 11 < Int32.ofNat 11 then Int32.ofNat 11 else Int32.ofNat 11) = Int32.ofNat 11 from rfl, if_pos (by decide), f_J1_indexOfChar_4cfef, rc_lt, l, pq_bd, pq_bd, pq_bd]
theorem pc_fo6 (w : Int32) : pc_fo w ≤ 5 := by
  unfold pc_fo
  repeat' split
  all_goals omega
theorem pc_fok : ∀ r, r < 5 → (pc_fm r).length = rc_len.getD r 0 ∧ 0 + pc_nn (pc_fm r) ≤ 3 ∧ (∀ p ∈ pc_fm r, p ≠ -1) ∧ (pc_fm r).drop 0 = pc_fm r := by decide

theorem pc_as {α β γ : Type} {A : Option (α × rc_S)} {f : α → rc_S → Option (β × rc_S)} {g : β → rc_S → Option γ} : rc_bd (rc_bd A f) g = rc_bd A (fun v s => rc_bd (f v s) g) := by
  cases A with
  | none => rfl
  | some q => rfl
end PQPC

section PQE
variable {rf : rc_F} {x c : Nat} {σ : rc_S}
theorem pc_x0 : Int32.ofNat c * 3 + 0 = Int32.ofNat (3 * c) := pc_nx (nc := 0)
theorem pc_x1 : Int32.ofNat c * 3 + 1 = Int32.ofNat (3 * c + 1) := pc_nx (nc := 1)
theorem pc_x2 : Int32.ofNat c * 3 + 2 = Int32.ofNat (3 * c + 2) := pc_nx (nc := 2)
theorem pc_so {α : Type} {A : Option (α × rc_S)} : (rc_bd A fun v s => some (v, s)) = A := by
  cases A with
  | none => rfl
  | some q => rfl
end PQE

section PQG
variable {rf : rc_F} {x cc : Nat}
theorem pc_any (v : Int32) : ∃ k : Nat, v = Int32.ofNat k := ⟨v.toBitVec.toNat, by rw [Int32.ofNat_bitVecToNat]; rfl⟩
theorem pc_nm1 {v : Int32} (h : vp_nar .char v = v) : v ≠ -1 := fun q => by subst q; exact absurd h (by decide)
end PQG

