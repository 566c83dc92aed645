def pc_fo (w : Int32) : Nat := if w = 98 then 4 else if w = 99 then 4 else if w = 103 then 4 else if w = 104 then 2 else if w = 108 then 4 else if w = 109 then 4 else if w = 112 then 1 else if w = 115 then 0 else if w = 116 then 4 else if w = 120 then 4 else if w = 121 then 3 else 5
def pc_fm (r : Nat) : List Int32 := rc_byt.getD r []
/-- a command that both hold -/
def pc_s (σ τ : rc_S) (x c : Nat) : Prop := pc_fo (σ (x + 304) c) < 5 ∧ σ (x + 304) c = τ (x + 308 + 6) (4 * c) ∧ ∀ z, z < pc_nn (pc_fm (pc_fo (σ (x + 304) c))) → σ (x + 305) (3 * c + z) = τ (x + 308 + 6) (4 * c + (z + 1))
/-- what reading may change altogether -/
def pc_F2 (σ σ' : rc_S) (x : Nat) : Prop := (∀ q, q ≠ x + 302 → q ≠ x + 304 → q ≠ x + 305 → σ' q = σ q) ∧ ∀ j, j ≠ 4 → j ≠ 5 → j ≠ 6 → σ' (x + 302) j = σ (x + 302) j
def pc_G2 (τ τ' : rc_S) (m : Nat) : Prop := (∀ q, q ≠ m → q ≠ m + 6 → τ' q = τ q) ∧ ∀ j, j ≠ 18 → j ≠ 20 → j ≠ 21 → τ' m j = τ m j
section PQPC
variable {rf : rc_F} {x m a cc nc Ln : Nat} {σ τ : rc_S} {T : Nat → Int32}
theorem pc_F2r : pc_F2 σ σ x := ⟨fun _ _ _ _ => rfl, fun _ _ _ _ => rfl⟩
theorem pc_G2r : pc_G2 τ τ m := ⟨fun _ _ _ => rfl, fun _ _ _ _ => rfl⟩
theorem pc_F2t {σ1 σ2 : rc_S} (h : pc_F2 σ σ1 x) (h2 : pc_F2 σ1 σ2 x) : pc_F2 σ σ2 x := ⟨fun q a b c => (h2.1 q a b c).trans (h.1 q a b c), fun q a b c => (h2.2 q a b c).trans (h.2 q a b c)⟩
theorem pc_G2t {τ1 τ2 : rc_S} (h : pc_G2 τ τ1 m) (h2 : pc_G2 τ1 τ2 m) : pc_G2 τ τ2 m := ⟨fun q a b => (h2.1 q a b).trans (h.1 q a b), fun q a b c => (h2.2 q a b c).trans (h.2 q a b c)⟩
theorem pc_fof {w : Int32} (h : pc_fo w < 5) : f_X6_formOf rf w σ = some (pc_fo w, σ) := by
  by_cases c98 : w = 98
  · rw [c98]; rfl
  by_cases c99 : w = 99
  · rw [c99]; rfl
  by_cases c103 : w = 103
  · rw [c103]; rfl
  by_cases c104 : w = 104
  · rw [c104]; rfl
  by_cases c108 : w = 108
  · rw [c108]; rfl
  by_cases c109 : w = 109
  · rw [c109]; rfl
  by_cases c112 : w = 112
  · rw [c112]; rfl
  by_cases c115 : w = 115
  · rw [c115]; rfl
  by_cases c116 : w = 116
  · rw [c116]; rfl
  by_cases c120 : w = 120
  · rw [c120]; rfl
  by_cases c121 : w = 121
  · rw [c121]; rfl
  unfold pc_fo at h
  rw [if_neg c98, if_neg c99, if_neg c103, if_neg c104, if_neg c108, if_neg c109, if_neg c112, if_neg c115, if_neg c116, if_neg c120, if_neg c121] at h
  exact absurd h (by decide)
/-- the letters: where one stands in their text, or -1 -/
def pc_ix (v : Int32) : List Int32 → Nat → Int32
  | [], _ => -1
  | b :: bs, i => if b = v then Int32.ofNat i else pc_ix v bs (i + 1)
theorem pc_ixl (v : Int32) : ∀ (ps : List Int32) (i fu : Nat), (rc_byt.getD 5 []).drop i = ps → i + ps.length = 11 → f_J1_indexOfChar_4cfef_7 rf 5 (Int32.ofNat 11) v (fun _ σ_7 => some ((-1 : Int32), σ_7)) (fu + ps.length + 1) (Int32.ofNat i) σ = some (pc_ix v ps i, σ) := by
  intro ps
  induction ps with
  | nil =>
    intro i fu hd hi
    have e : i = 11 := by simpa using hi
    subst e
    rw [f_J1_indexOfChar_4cfef_7, if_pos (Int32.le_refl _), pc_ix]
  | cons p ps ih =>
    intro i fu hd hi
    rw [List.length_cons] at hi
    have hpi : (rc_byt.getD 5 []).getD i 0 = p := by
      have e : (rc_byt.getD 5 [])[i]? = some p := by
        have q : ((rc_byt.getD 5 []).drop i)[0]? = some p := by rw [hd]; rfl
        rw [List.getElem?_drop] at q
        exact q
      rw [List.getD_eq_getElem?_getD, e]; rfl
    have hd2 : (rc_byt.getD 5 []).drop (i + 1) = ps := by
      have q : ((rc_byt.getD 5 []).drop i).drop 1 = ps := by rw [hd]; rfl
      rw [List.drop_drop] at q
      exact q
    have hni : ¬ Int32.ofNat 11 ≤ Int32.ofNat i := fun q => by have := (pq_le (by decide) (by omega)).mp q; omega
    have hr : rc_len.getD 5 0 = 11 := rfl
    rw [show fu + (p :: ps).length + 1 = (fu + ps.length + 1) + 1 from rfl, f_J1_indexOfChar_4cfef_7, if_neg hni, hr, pq_in (by omega) (by decide), pq_ck, pq_cl (by omega), hpi, pc_ix]
    by_cases c : p = v
    · rw [if_pos c, if_pos c]
    · rw [if_neg c, if_neg c, rc_lt, pq_s]
      exact ih (i + 1) fu hd2 (by omega)
theorem pc_ixd : ∀ n, n < 256 → (0 ≤ pc_ix (Int32.ofNat n).toInt8.toInt32 (rc_byt.getD 5 []) 0 ↔ pc_fo (Int32.ofNat n) < 5) := by decide +kernel
theorem pc_foR {w : Int32} (h : pc_fo w < 5) : ¬ w < 0 ∧ ¬ 255 < w := by
  by_cases c98 : w = 98
  · subst c98; decide
  by_cases c99 : w = 99
  · subst c99; decide
  by_cases c103 : w = 103
  · subst c103; decide
  by_cases c104 : w = 104
  · subst c104; decide
  by_cases c108 : w = 108
  · subst c108; decide
  by_cases c109 : w = 109
  · subst c109; decide
  by_cases c112 : w = 112
  · subst c112; decide
  by_cases c115 : w = 115
  · subst c115; decide
  by_cases c116 : w = 116
  · subst c116; decide
  by_cases c120 : w = 120
  · subst c120; decide
  by_cases c121 : w = 121
  · subst c121; decide
  unfold pc_fo at h
  rw [if_neg c98, if_neg c99, if_neg c103, if_neg c104, if_neg c108, if_neg c109, if_neg c112, if_neg c115, if_neg c116, if_neg c120, if_neg c121] at h
  exact absurd h (by decide)
theorem pc_ln5 : f_J0_length_8abf5 rf 5 σ = some (Int32.ofNat 11, σ) := by
  rw [f_J0_length_8abf5, f_J0_coder_7d493, pq_bd, show (Int32.ofNat (rc_len.getD 5 0)) >>> ((0 : Int32) &&& 31) = Int32.ofNat 11 by decide]
/-- String.indexOf in the text of the letters -/
theorem pc_ixo (w : Int32) : ∃ r, f_J0_indexOf_0f7a4 rf 5 w σ = some (r, σ) ∧ (0 ≤ r ↔ pc_fo w < 5) := by
  have go : f_J0_indexOf_0f7a4 rf 5 w σ = rc_bd (rc_bd (f_J1_indexOf_4cfef rf 5 w 0 (Int32.ofNat 11) σ) fun w_4 σ_4 => some (w_4, σ_4)) fun w_1 σ_1 => some (w_1, σ_1) := by
    rw [f_J0_indexOf_0f7a4, f_J0_indexOf_7cf53, f_J0_isLatin1_aae02, pq_bd, if_neg (by decide), pc_ln5, pq_bd]
  by_cases h0 : w < 0
  · refine ⟨-1, ?_, fun q => absurd q (by decide), fun q => absurd h0 (pc_foR q).1⟩
    rw [go, f_J1_indexOf_4cfef, f_J1_canEncode_9a6ad, if_pos h0, pq_bd, if_pos rfl, pq_bd, pq_bd]
  by_cases h1 : 255 < w
  · refine ⟨-1, ?_, fun q => absurd q (by decide), fun q => absurd h1 (pc_foR q).2⟩
    rw [go, f_J1_indexOf_4cfef, f_J1_canEncode_9a6ad, if_neg h0, if_pos h1, pq_bd, if_pos rfl, pq_bd, pq_bd]
  obtain ⟨n, hn, rfl⟩ := pq_nat (n := 256) h0 (show w < (256 : Int32) by grind) (by decide)
  refine ⟨_, ?_, pc_ixd n hn⟩
  have l := pc_ixl (rf := rf) (σ := σ) (Int32.ofNat n).toInt8.toInt32 (rc_byt.getD 5 []) 0 (99999 - 11) rfl rfl
  rw [show (rc_byt.getD 5 []).length = 11 from rfl, ← pq_fu 11 (by decide), show Int32.ofNat 0 = (0 : Int32) from rfl] at l
  rw [go, f_J1_indexOf_4cfef, f_J1_canEncode_9a6ad, if_neg h0, if_neg h1, pq_bd, if_neg (by decide), rc_lt, rc_lt, show (if (0 : Int32) < 0 then (0 : Int32) else 0) = 0 from rfl, show Int32.ofNat (rc_len.getD 5 0) = Int32.ofNat 11 from rfl, show (if Int32.ofNat 11 < Int32.ofNat 11 then Int32.ofNat 11 else Int32.ofNat 11) = Int32.ofNat 11 from rfl, if_pos (by decide), f_J1_indexOfChar_4cfef, rc_lt, l, pq_bd, pq_bd, pq_bd]
theorem pc_fo6 (w : Int32) : pc_fo w ≤ 5 := by
  unfold pc_fo
  repeat' split
  all_goals omega
theorem pc_fok : ∀ r, r < 5 → (pc_fm r).length = rc_len.getD r 0 ∧ 0 + pc_nn (pc_fm r) ≤ 3 ∧ (∀ p ∈ pc_fm r, p ≠ -1) ∧ (pc_fm r).drop 0 = pc_fm r := by decide

theorem pc_as {α β γ : Type} {A : Option (α × rc_S)} {f : α → rc_S → Option (β × rc_S)} {g : β → rc_S → Option γ} : rc_bd (rc_bd A f) g = rc_bd A (fun v s => rc_bd (f v s) g) := by
  cases A with
  | none => rfl
  | some q => rfl
theorem pc_e4 {τ0 : rc_S} : pc_rr rf m (pc_fm 4) 1 τ0 = rc_bd (f_X9_figure rf m 1 1 τ0) fun _ s => some ((), s) := by
  show pc_rr rf m [100] 1 τ0 = _
  rw [pc_rr, if_pos rfl]
  rfl
theorem pc_e3 {τ0 : rc_S} : pc_rr rf m (pc_fm 3) 1 τ0 = some ((), τ0) := rfl
theorem pc_e2 {τ0 : rc_S} : pc_rr rf m (pc_fm 2) 1 τ0 = rc_bd (f_X9_figure rf m 1 1 τ0) fun _ s => rc_bd (f_X9_sign rf m 61 s) fun _ s => rc_bd (f_X9_figure rf m 2 2 s) fun _ s => some ((), s) := by
  show pc_rr rf m [100, 61, 110] 1 τ0 = _
  simp only [pc_rr, if_true, show ((61 : Int32) = 100) = False from by decide, show ((61 : Int32) = 110) = False from by decide, show ((110 : Int32) = 100) = False from by decide, if_false]
  rfl
theorem pc_e1 {τ0 : rc_S} : pc_rr rf m (pc_fm 1) 1 τ0 = rc_bd (f_X9_figure rf m 1 1 τ0) fun _ s => rc_bd (f_X9_sign rf m 62 s) fun _ s => rc_bd (f_X9_figure rf m 2 1 s) fun _ s => rc_bd (f_X9_sign rf m 61 s) fun _ s => rc_bd (f_X9_figure rf m 3 2 s) fun _ s => some ((), s) := by
  show pc_rr rf m [100, 62, 100, 61, 110] 1 τ0 = _
  simp only [pc_rr, if_true, show ((62 : Int32) = 100) = False from by decide, show ((62 : Int32) = 110) = False from by decide, show ((61 : Int32) = 100) = False from by decide, show ((61 : Int32) = 110) = False from by decide, show ((110 : Int32) = 100) = False from by decide, if_false]
  rfl
theorem pc_e0 {τ0 : rc_S} : pc_rr rf m (pc_fm 0) 1 τ0 = rc_bd (f_X9_figure rf m 1 1 τ0) fun _ s => rc_bd (f_X9_sign rf m 42 s) fun _ s => rc_bd (f_X9_figure rf m 2 1 s) fun _ s => some ((), s) := by
  show pc_rr rf m [100, 42, 100] 1 τ0 = _
  simp only [pc_rr, if_true, show ((42 : Int32) = 100) = False from by decide, show ((42 : Int32) = 110) = False from by decide, if_false]
  rfl
theorem pc_ro1 (hM : pq_M rf m) (h : pc_r τ m a cc 0 Ln T) (hL : Ln ≤ 60) (ha : a < Ln) (hc : cc < 60) (hf : pc_fo (T a) < 5) (hw : T a ≠ -1) : f_X9_readsOne rf m τ = rc_bd (pc_rr rf m (pc_fm (pc_fo (T a))) 1 (rc_up (rc_up τ (m + 6) (4 * cc) (T a)) m 18 (Int32.ofNat (a + 1)))) fun _ τ1 => some ((), rc_up τ1 m 20 (τ1 m 20 + 1)) := by
  obtain ⟨h18, h20, h21, h19, hT⟩ := h
  rw [f_X9_readsOne, pc_he hM ⟨h18, h20, h21, h19, hT⟩ hL (by omega), pq_bd, if_pos ha, h20, pc_t0, pq_in (by omega) (by decide), pq_ck, pq_cl (by omega), pq_m8 hM, rc_lt, if_neg hw, pq_upN (by omega), h18, pq_s, rc_lt]
  generalize rc_up (rc_up τ (m + 6) (4 * cc) (T a)) m 18 (Int32.ofNat (a + 1)) = τ0
  unfold pc_fo at hf ⊢
  generalize T a = w at hf ⊢
  clear h18 h20 h21 h19 hT hw
  by_cases c98 : w = 98
  · rw [if_pos c98, if_pos c98, pc_e4]
    simp only [pc_as, pq_bd, rc_lt]
  rw [if_neg c98] at hf
  rw [if_neg c98, if_neg c98]
  by_cases c99 : w = 99
  · rw [if_pos c99, if_pos c99, pc_e4]
    simp only [pc_as, pq_bd, rc_lt]
  rw [if_neg c99] at hf
  rw [if_neg c99, if_neg c99]
  by_cases c103 : w = 103
  · rw [if_pos c103, if_pos c103, pc_e4]
    simp only [pc_as, pq_bd, rc_lt]
  rw [if_neg c103] at hf
  rw [if_neg c103, if_neg c103]
  by_cases c104 : w = 104
  · rw [if_pos c104, if_pos c104, pc_e2]
    simp only [pc_as, pq_bd, rc_lt]
  rw [if_neg c104] at hf
  rw [if_neg c104, if_neg c104]
  by_cases c108 : w = 108
  · rw [if_pos c108, if_pos c108, pc_e4]
    simp only [pc_as, pq_bd, rc_lt]
  rw [if_neg c108] at hf
  rw [if_neg c108, if_neg c108]
  by_cases c109 : w = 109
  · rw [if_pos c109, if_pos c109, pc_e4]
    simp only [pc_as, pq_bd, rc_lt]
  rw [if_neg c109] at hf
  rw [if_neg c109, if_neg c109]
  by_cases c112 : w = 112
  · rw [if_pos c112, if_pos c112, pc_e1]
    simp only [pc_as, pq_bd, rc_lt]
  rw [if_neg c112] at hf
  rw [if_neg c112, if_neg c112]
  by_cases c115 : w = 115
  · rw [if_pos c115, if_pos c115, pc_e0]
    simp only [pc_as, pq_bd, rc_lt]
  rw [if_neg c115] at hf
  rw [if_neg c115, if_neg c115]
  by_cases c116 : w = 116
  · rw [if_pos c116, if_pos c116, pc_e4]
    simp only [pc_as, pq_bd, rc_lt]
  rw [if_neg c116] at hf
  rw [if_neg c116, if_neg c116]
  by_cases c120 : w = 120
  · rw [if_pos c120, if_pos c120, pc_e4]
    simp only [pc_as, pq_bd, rc_lt]
  rw [if_neg c120] at hf
  rw [if_neg c120, if_neg c120]
  by_cases c121 : w = 121
  · rw [if_pos c121, if_pos c121, pc_e3]
    simp only [pc_as, pq_bd, rc_lt]
  rw [if_neg c121] at hf
  rw [if_neg c121, if_neg c121]
  exact absurd hf (by decide)
/-- no letter of a command: wrong there -/
theorem pc_ro0 (hM : pq_M rf m) (h : pc_r τ m a cc 0 Ln T) (hL : Ln ≤ 60) (ha : a ≤ Ln) (hc : cc < 60) (hf : a < Ln → pc_fo (T a) = 5 ∧ T a ≠ -1) : ∃ τ', f_X9_readsOne rf m τ = some ((), τ') ∧ pc_r τ' m a (cc + 1) 1 Ln T ∧ pc_G2 τ τ' m ∧ ∀ k, k ≠ 4 * cc → τ' (m + 6) k = τ (m + 6) k := by
  have h0 := h
  obtain ⟨h18, h20, h21, h19, hT⟩ := h
  by_cases hl : a < Ln
  · obtain ⟨f1, f2⟩ := hf hl
    refine ⟨rc_up (rc_up (rc_up (rc_up (rc_up τ (m + 6) (4 * cc) (T a)) m 18 (Int32.ofNat (a + 1))) m 21 1) m 18 (Int32.ofNat a)) m 20 (Int32.ofNat (cc + 1)), ?_, ⟨?_, ?_, ?_, ?_, fun k hk => ?_⟩, ⟨fun q q1 q2 => by simp only [pq_upN q1, pq_upN q2], fun j j1 j2 j3 => ?_⟩, fun k hk => ?_⟩
    · rw [f_X9_readsOne, pc_he hM h0 hL ha, pq_bd, if_pos hl, h20, pc_t0, pq_in (by omega) (by decide), pq_ck, pq_cl (by omega), pq_m8 hM, rc_lt, if_neg f2, pq_upN (by omega), h18, pq_s, rc_lt]
      unfold pc_fo at f1
      by_cases c98 : T a = 98
      · rw [if_pos c98] at f1; exact absurd f1 (by decide)
      rw [if_neg c98] at f1
      rw [if_neg c98]
      by_cases c99 : T a = 99
      · rw [if_pos c99] at f1; exact absurd f1 (by decide)
      rw [if_neg c99] at f1
      rw [if_neg c99]
      by_cases c103 : T a = 103
      · rw [if_pos c103] at f1; exact absurd f1 (by decide)
      rw [if_neg c103] at f1
      rw [if_neg c103]
      by_cases c104 : T a = 104
      · rw [if_pos c104] at f1; exact absurd f1 (by decide)
      rw [if_neg c104] at f1
      rw [if_neg c104]
      by_cases c108 : T a = 108
      · rw [if_pos c108] at f1; exact absurd f1 (by decide)
      rw [if_neg c108] at f1
      rw [if_neg c108]
      by_cases c109 : T a = 109
      · rw [if_pos c109] at f1; exact absurd f1 (by decide)
      rw [if_neg c109] at f1
      rw [if_neg c109]
      by_cases c112 : T a = 112
      · rw [if_pos c112] at f1; exact absurd f1 (by decide)
      rw [if_neg c112] at f1
      rw [if_neg c112]
      by_cases c115 : T a = 115
      · rw [if_pos c115] at f1; exact absurd f1 (by decide)
      rw [if_neg c115] at f1
      rw [if_neg c115]
      by_cases c116 : T a = 116
      · rw [if_pos c116] at f1; exact absurd f1 (by decide)
      rw [if_neg c116] at f1
      rw [if_neg c116]
      by_cases c120 : T a = 120
      · rw [if_pos c120] at f1; exact absurd f1 (by decide)
      rw [if_neg c120] at f1
      rw [if_neg c120]
      by_cases c121 : T a = 121
      · rw [if_pos c121] at f1; exact absurd f1 (by decide)
      rw [if_neg c121] at f1
      rw [if_neg c121]
      rw [rc_lt, if_neg f2, pq_upE, pq_udN (by decide), pq_upE, pq_udE, rc_lt, pq_upE, pq_udN (by decide), pq_upE, pq_udN (by decide), pq_upE, pq_udN (by decide), pq_upN (by omega), h20, pq_s, rc_lt, show Int32.ofNat (a + 1) - 1 = Int32.ofNat a from by rw [← pq_s, Int32.add_sub_cancel]]
    · rw [pq_upE, pq_udN (by decide), pq_upE, pq_udE]
    · rw [pq_upE, pq_udE]
    · rw [pq_upE, pq_udN (by decide), pq_upE, pq_udN (by decide), pq_upE, pq_udE]
    · rw [pq_upE, pq_udN (by decide), pq_upE, pq_udN (by decide), pq_upE, pq_udN (by decide), pq_upE, pq_udN (by decide), pq_upN (by omega)]; exact h19
    · simp (disch := omega) only [pq_upN]; exact hT k hk
    · rw [pq_upE, pq_udN j2, pq_upE, pq_udN j1, pq_upE, pq_udN j3, pq_upE, pq_udN j1, pq_upN (by omega)]
    · simp (disch := omega) only [pq_upN, pq_upE, pq_udN]
  · refine ⟨rc_up (rc_up (rc_up (rc_up (rc_up τ (m + 6) (4 * cc) (-1)) m 18 (Int32.ofNat a + 0)) m 21 1) m 18 (Int32.ofNat a + 0 - 0)) m 20 (Int32.ofNat (cc + 1)), ?_, ⟨?_, ?_, ?_, ?_, fun k hk => ?_⟩, ⟨fun q q1 q2 => by simp only [pq_upN q1, pq_upN q2], fun j j1 j2 j3 => ?_⟩, fun k hk => ?_⟩
    · rw [f_X9_readsOne, pc_he hM h0 hL ha, pq_bd, if_neg hl, h20, pc_t0, pq_in (by omega) (by decide), pq_ck, pq_cl (by omega), pq_m8 hM, rc_lt, if_pos rfl, pq_upN (by omega), h18, rc_lt]
      rw [if_neg (show ¬ (-1 : Int32) = 98 by decide), if_neg (show ¬ (-1 : Int32) = 99 by decide), if_neg (show ¬ (-1 : Int32) = 103 by decide), if_neg (show ¬ (-1 : Int32) = 104 by decide), if_neg (show ¬ (-1 : Int32) = 108 by decide), if_neg (show ¬ (-1 : Int32) = 109 by decide), if_neg (show ¬ (-1 : Int32) = 112 by decide), if_neg (show ¬ (-1 : Int32) = 115 by decide), if_neg (show ¬ (-1 : Int32) = 116 by decide), if_neg (show ¬ (-1 : Int32) = 120 by decide), if_neg (show ¬ (-1 : Int32) = 121 by decide)]
      rw [rc_lt, if_pos rfl, pq_upE, pq_udN (by decide), pq_upE, pq_udE, rc_lt, pq_upE, pq_udN (by decide), pq_upE, pq_udN (by decide), pq_upE, pq_udN (by decide), pq_upN (by omega), h20, pq_s, rc_lt]
    · rw [pq_upE, pq_udN (by decide), pq_upE, pq_udE, Int32.sub_zero, Int32.add_zero]
    · rw [pq_upE, pq_udE]
    · rw [pq_upE, pq_udN (by decide), pq_upE, pq_udN (by decide), pq_upE, pq_udE]
    · rw [pq_upE, pq_udN (by decide), pq_upE, pq_udN (by decide), pq_upE, pq_udN (by decide), pq_upE, pq_udN (by decide), pq_upN (by omega)]; exact h19
    · simp (disch := omega) only [pq_upN]; exact hT k hk
    · rw [pq_upE, pq_udN j2, pq_upE, pq_udN j1, pq_upE, pq_udN j3, pq_upE, pq_udN j1, pq_upN (by omega)]
    · simp (disch := omega) only [pq_upN, pq_upE, pq_udN]
/-- one command, both sides -/
theorem pc_one (hX : pq_X rf x) (hL : Ln ≤ 60) (hc : cc < 60) (hT1 : ∀ k, k < Ln → vp_nar .char (T k) = T k ∧ T k ≠ -1) (h1 : pc_c σ x a cc nc Ln T) (h2 : pc_r τ (x + 308) a cc 0 Ln T) (ha : a ≤ Ln) (hst : ∀ c, c < cc → pc_s σ τ x c) :
    (∃ σ' τ' a' nc', f_X6_readCommand rf (x + 302) σ = some (1, σ') ∧ f_X9_readsOne rf (x + 308) τ = some ((), τ') ∧ pc_c σ' x a' (cc + 1) nc' Ln T ∧ pc_r τ' (x + 308) a' (cc + 1) 0 Ln T ∧ a < a' ∧ a' ≤ Ln ∧ pc_F2 σ σ' x ∧ pc_G2 τ τ' (x + 308) ∧ ∀ c, c < cc + 1 → pc_s σ' τ' x c) ∨
    (∃ σ' τ' a' cc' nc', f_X6_readCommand rf (x + 302) σ = some (0, σ') ∧ f_X9_readsOne rf (x + 308) τ = some ((), τ') ∧ pc_c σ' x a' cc' nc' Ln T ∧ pc_r τ' (x + 308) a' (cc + 1) 1 Ln T ∧ a' ≤ Ln ∧ pc_F2 σ σ' x ∧ pc_G2 τ τ' (x + 308)) := by
  have hM := pq_xm hX
  have h1' := h1
  obtain ⟨h5, h4, h6, h1L, hTc⟩ := h1
  by_cases hl : a < Ln
  · have hnl : ¬ Int32.ofNat Ln ≤ Int32.ofNat a := fun q => by have := (pq_le (by omega) (by omega)).mp q; omega
    by_cases hf : pc_fo (T a) = 5
    · obtain ⟨t, e1, e2, e3, e4⟩ := pc_ro0 hM h2 hL ha hc (fun _ => ⟨hf, (hT1 a hl).2⟩)
      obtain ⟨r, i1, i2⟩ := pc_ixo (rf := rf) (σ := σ) (T a)
      refine Or.inr ⟨σ, t, a, cc, nc, ?_, e1, h1', e2, ha, pc_F2r, e3⟩
      rw [f_X6_readCommand, h1L, h5, if_neg hnl, pq_in (by omega) (by decide), pq_ck, pq_t0 hX, pq_cl (by omega), hTc a hl, i1, pq_bd, if_neg (fun q => by have := i2.mp q; omega)]
    · have hf5 : pc_fo (T a) < 5 := by have := pc_fo6 (T a); omega
      obtain ⟨k1, k2, k3, k4⟩ := pc_fok _ hf5
      -- the states before the parts
      have c0 : pc_c (rc_up (rc_up (rc_up σ (x + 304) cc (T a)) (x + 302) 6 0) (x + 302) 5 (Int32.ofNat (a + 1))) x (a + 1) cc 0 Ln T := ⟨by rw [pq_upE, pq_udE], by rw [pq_upE, pq_udN (by decide), pq_upE, pq_udN (by decide), pq_upN (by omega)]; exact h4, by rw [pq_upE, pq_udN (by decide), pq_upE, pq_udE]; rfl, by rw [pq_upE, pq_udN (by decide), pq_upE, pq_udN (by decide), pq_upN (by omega)]; exact h1L, fun k hk => by rw [pq_upN (by omega), pq_upN (by omega), pq_upN (by omega)]; exact hTc k hk⟩
      obtain ⟨h18, h20, h21, h19, hTr⟩ := h2
      have r0 : pc_r (rc_up (rc_up τ (x + 308 + 6) (4 * cc) (T a)) (x + 308) 18 (Int32.ofNat (a + 1))) (x + 308) (a + 1) cc 0 Ln T := ⟨by rw [pq_upE, pq_udE], by rw [pq_upE, pq_udN (by decide), pq_upN (by omega)]; exact h20, by rw [pq_upE, pq_udN (by decide), pq_upN (by omega)]; exact h21, by rw [pq_upE, pq_udN (by decide), pq_upN (by omega)]; exact h19, fun k hk => by rw [pq_upN (by omega), pq_upN (by omega)]; exact hTr k hk⟩
      obtain ⟨r, i1, i2⟩ := pc_ixo (rf := rf) (σ := σ) (T a)
      have head : f_X6_readCommand rf (x + 302) σ = f_X6_readCommand_78 rf (x + 302) (pc_fo (T a)) (fun v2_14 σ_15 => rc_lt (rc_up σ_15 (x + 302) 4 ((σ_15 (x + 302) 4) + (1 : Int32))) fun σ_16 => some ((1 : Int32), σ_16)) rc_fu (0 : Int32) (rc_up (rc_up (rc_up σ (x + 304) cc (T a)) (x + 302) 6 0) (x + 302) 5 (Int32.ofNat (a + 1))) := by
        rw [f_X6_readCommand, h1L, h5, if_neg hnl, pq_in (by omega) (by decide), pq_ck, pq_t0 hX, pq_cl (by omega), hTc a hl, i1, pq_bd, if_pos (i2.mpr hf5), h5, pq_in (by omega) (by decide), pq_ck, pq_cl (by omega), hTc a hl, pc_fof hf5, pq_bd, pq_cd (show pc_fo (T a) < 6 by omega), h5, pq_in (by omega) (by decide), pq_ck, h4, pq_in (by omega) (by decide), pq_ck, pq_t2 hX, pq_cl (by omega), pq_cl (by omega), hTc a hl, (hT1 a hl).1, rc_lt, rc_lt, rc_lt, pq_upE, pq_udN (by decide), pq_upN (by omega), h5, pq_s]
      have hm : pc_fo (T a) < 5 := hf5
      rcases pc_lock (T := T) hX hf5 hL hc (pc_fm (pc_fo (T a))) 0 _ _ (a + 1) 0 k4 (by rw [Nat.zero_add]; exact k1) k2 k3 c0 r0 (by omega) (fun z hz => by omega) with ⟨s1, t1, a1, e1, e2, e3, e4, e5, e6, e7, e8, e9⟩ | ⟨s1, t1, a1, nc1, e1, e2, e3, e4, e5, e6, e7, e8⟩
      · rw [Nat.zero_add] at e2 e3 e9
        have hx := e1 (fun v2_14 σ_15 => rc_lt (rc_up σ_15 (x + 302) 4 ((σ_15 (x + 302) 4) + (1 : Int32))) fun σ_16 => some ((1 : Int32), σ_16)) (99999 - (pc_fm (pc_fo (T a))).length)
        rw [← pq_fu _ (by have := (pc_chk _ hf5).2.1; omega), show Int32.ofNat 0 = (0 : Int32) from rfl] at hx
        obtain ⟨g5, g4, g6, g1, gT⟩ := e3
        obtain ⟨i18, i20, i21, i19, iT⟩ := e4
        refine Or.inl ⟨rc_up s1 (x + 302) 4 (Int32.ofNat (cc + 1)), rc_up t1 (x + 308) 20 (Int32.ofNat (cc + 1)), a1, pc_nn (pc_fm (pc_fo (T a))), ?_, ?_, ⟨?_, ?_, ?_, ?_, fun k hk => ?_⟩, ⟨?_, ?_, ?_, ?_, fun k hk => ?_⟩, by omega, e6, ⟨fun q q1 q2 q3 => ?_, fun j j1 j2 j3 => ?_⟩, ⟨fun q q1 q2 => ?_, fun j j1 j2 j3 => ?_⟩, fun c hcc => ?_⟩
        · rw [head, hx, rc_lt, g4, pq_s]
        · rw [pc_ro1 hM ⟨h18, h20, h21, h19, hTr⟩ hL hl hc hf5 (hT1 a hl).2, e2, pq_bd, i20, pq_s]
        · rw [pq_upE, pq_udN (by decide)]; exact g5
        · rw [pq_upE, pq_udE]
        · rw [pq_upE, pq_udN (by decide)]; exact g6
        · rw [pq_upE, pq_udN (by decide)]; exact g1
        · rw [pq_upN (by omega)]; exact gT k hk
        · rw [pq_upE, pq_udN (by decide)]; exact i18
        · rw [pq_upE, pq_udE]
        · rw [pq_upE, pq_udN (by decide)]; exact i21
        · rw [pq_upE, pq_udN (by decide)]; exact i19
        · rw [pq_upN (by omega)]; exact iT k hk
        · rw [pq_upN q1, e7.1 q q1 q3, pq_upN q1, pq_upN q1, pq_upN q2]
        · rw [pq_upE, pq_udN j1, e7.2.1 j j2 j3, pq_upE, pq_udN j2, pq_upE, pq_udN j3, pq_upN (by omega)]
        · rw [pq_upN q1, e8.1 q q1 q2, pq_upN q1, pq_upN q2]
        · rw [pq_upE, pq_udN j2, e8.2.1 j j1 j3, pq_upE, pq_udN j1, pq_upN (by omega)]
        · have kd : ∀ c', rc_up s1 (x + 302) 4 (Int32.ofNat (cc + 1)) (x + 304) c' = upd (σ (x + 304)) cc (T a) c' := fun c' => by rw [pq_upN (by omega), e7.1 _ (by omega) (by omega), pq_upN (by omega), pq_upN (by omega), pq_upE]
          have td : ∀ k, (k < 4 * cc + 1 ∨ 4 * cc + 4 ≤ k) → rc_up t1 (x + 308) 20 (Int32.ofNat (cc + 1)) (x + 308 + 6) k = upd (τ (x + 308 + 6)) (4 * cc) (T a) k := fun k hk => by rw [pq_upN (by omega), e8.2.2 k (by omega), pq_upN (by omega), pq_upE]
          by_cases e : c = cc
          · subst e
            have kk : rc_up s1 (x + 302) 4 (Int32.ofNat (c + 1)) (x + 304) c = T a := by rw [kd, pq_udE]
            refine ⟨by rw [kk]; exact hf5, by rw [kk, td _ (by omega), pq_udE], fun z hz => ?_⟩
            rw [kk] at hz
            rw [pq_upN (by omega), pq_upN (by omega)]
            exact e9 z hz
          · have hs := hst c (by omega)
            have kk : rc_up s1 (x + 302) 4 (Int32.ofNat (cc + 1)) (x + 304) c = σ (x + 304) c := by rw [kd, pq_udN e]
            have n3 := (pc_fok _ hs.1).2.1
            refine ⟨by rw [kk]; exact hs.1, by rw [kk, td _ (by omega), pq_udN (by omega)]; exact hs.2.1, fun z hz => ?_⟩
            rw [kk] at hz
            rw [pq_upN (by omega), e7.2.2 _ (by omega), pq_upN (by omega), pq_upN (by omega), pq_upN (by omega), td _ (by omega), pq_udN (by omega)]
            exact hs.2.2 z hz
      · have hx := e1 (fun v2_14 σ_15 => rc_lt (rc_up σ_15 (x + 302) 4 ((σ_15 (x + 302) 4) + (1 : Int32))) fun σ_16 => some ((1 : Int32), σ_16)) (99999 - (pc_fm (pc_fo (T a))).length)
        rw [← pq_fu _ (by have := (pc_chk _ hf5).2.1; omega), show Int32.ofNat 0 = (0 : Int32) from rfl] at hx
        rw [Nat.zero_add] at e2
        obtain ⟨i18, i20, i21, i19, iT⟩ := e4
        refine Or.inr ⟨s1, rc_up t1 (x + 308) 20 (Int32.ofNat (cc + 1)), a1, cc, nc1, by rw [head, hx], ?_, e3, ⟨?_, ?_, ?_, ?_, fun k hk => ?_⟩, e6, ⟨fun q q1 q2 q3 => ?_, fun j j1 j2 j3 => ?_⟩, ⟨fun q q1 q2 => ?_, fun j j1 j2 j3 => ?_⟩⟩
        · rw [pc_ro1 hM ⟨h18, h20, h21, h19, hTr⟩ hL hl hc hf5 (hT1 a hl).2, e2, pq_bd, i20, pq_s]
        · rw [pq_upE, pq_udN (by decide)]; exact i18
        · rw [pq_upE, pq_udE]
        · rw [pq_upE, pq_udN (by decide)]; exact i21
        · rw [pq_upE, pq_udN (by decide)]; exact i19
        · rw [pq_upN (by omega)]; exact iT k hk
        · rw [e7.1 q q1 q3, pq_upN q1, pq_upN q1, pq_upN q2]
        · rw [e7.2.1 j j2 j3, pq_upE, pq_udN j2, pq_upE, pq_udN j3, pq_upN (by omega)]
        · rw [pq_upN q1, e8.1 q q1 q2, pq_upN q1, pq_upN q2]
        · rw [pq_upE, pq_udN j2, e8.2.1 j j1 j3, pq_upE, pq_udN j1, pq_upN (by omega)]
  · obtain ⟨t, e1, e2, e3, e4⟩ := pc_ro0 hM h2 hL ha hc (fun q => absurd q hl)
    refine Or.inr ⟨σ, t, a, cc, nc, ?_, e1, h1', e2, ha, pc_F2r, e3⟩
    rw [f_X6_readCommand, h1L, h5, if_pos ((pq_le (by omega) (by omega)).mpr (by omega))]
/-- all commands, both sides: a fault at the same place, or none -/
theorem pc_seq (hX : pq_X rf x) (hL : Ln ≤ 60) (hT1 : ∀ k, k < Ln → vp_nar .char (T k) = T k ∧ T k ≠ -1) : ∀ (d a cc nc : Nat) (σ τ : rc_S), a + d = Ln → 2 * cc ≤ a → pc_c σ x a cc nc Ln T → pc_r τ (x + 308) a cc 0 Ln T → (∀ c, c < cc → pc_s σ τ x c) →
    ∃ σ' τ' res, (∀ fu, f_X6_read_12 rf (x + 302) (fun _ σ_11 => some ((σ_11 (x + 302) 5), σ_11)) (fu + d + 1) (Int32.ofNat cc) σ = some (res, σ')) ∧ (∀ (K : rc_S → Option (Int32 × rc_S)) (fu : Nat), (rc_bd (f_X9_readsOne rf (x + 308) τ) fun _ τ1 => f_X9_commands_41 rf (x + 308) K (fu + d + 1) τ1) = K τ') ∧ pc_F2 σ σ' x ∧ pc_G2 τ τ' (x + 308) ∧ τ' (x + 308) 19 = Int32.ofNat Ln ∧
    ((res = -1 ∧ ∃ cc', σ' (x + 302) 4 = Int32.ofNat cc' ∧ τ' (x + 308) 20 = Int32.ofNat cc' ∧ cc' ≤ Ln ∧ cc' < 60 ∧ τ' (x + 308) 21 = 0 ∧ τ' (x + 308) 18 = Int32.ofNat Ln ∧ ∀ c, c < cc' → pc_s σ' τ' x c) ∨
     (∃ a', a' ≤ Ln ∧ res = Int32.ofNat a' ∧ τ' (x + 308) 18 = Int32.ofNat a' ∧ (τ' (x + 308) 21 = 1 ∨ (τ' (x + 308) 21 = 0 ∧ a' < Ln)))) := by
  intro d
  induction d using Nat.strongRecOn with
  | _ d ih =>
    intro a cc nc σ τ hd h2c h1 h2 hst
    have hM := pq_xm hX
    rcases pc_one hX hL (show cc < 60 by omega) hT1 h1 h2 (by omega) hst with ⟨s1, t1, a1, nc1, e1, e2, e3, e4, e5, e6, e7, e8, e9⟩ | ⟨s1, t1, a1, cc1, nc1, e1, e2, e3, e4, e6, e7, e8⟩
    · have e3' := e3
      have e4' := e4
      obtain ⟨g5, g4, g6, g1, gT⟩ := e3
      obtain ⟨i18, i20, i21, i19, iT⟩ := e4
      have hrd : ∀ fu, f_X6_read_12 rf (x + 302) (fun _ σ_11 => some ((σ_11 (x + 302) 5), σ_11)) (fu + d + 1) (Int32.ofNat cc) σ = if a1 = Ln then some (-1, s1) else rc_bd (f_X6_readSign rf (x + 302) (59 : Int32) s1) fun w_4 σ_4 => if w_4 = 0 then some ((σ_4 (x + 302) 5), σ_4) else f_X6_read_12 rf (x + 302) (fun _ σ_11 => some ((σ_11 (x + 302) 5), σ_11)) (fu + d) (Int32.ofNat (cc + 1)) σ_4 := fun fu => by
        rw [f_X6_read_12, if_neg (fun z => by have := (pq_le (n := 60) (by decide) (by omega)).mp z; omega), e1, pq_bd, if_neg (by decide), g5, g1]
        by_cases q : a1 = Ln
        · rw [if_pos (by rw [q]), if_pos q]
        · rw [if_neg (fun z => q ((pq_eq (by omega) (by omega)).mp z)), if_neg q]
          simp only [rc_lt, pq_s]
      have hr9 : ∀ (K : rc_S → Option (Int32 × rc_S)) (fu : Nat), (rc_bd (f_X9_readsOne rf (x + 308) τ) fun _ τ1 => f_X9_commands_41 rf (x + 308) K (fu + d + 1) τ1) = if (if a1 < Ln then T a1 else -1) = 59 then rc_bd (f_X9_readsOne rf (x + 308) (rc_up t1 (x + 308) 18 (Int32.ofNat (a1 + 1)))) fun _ σ_11 => f_X9_commands_41 rf (x + 308) K (fu + d) σ_11 else K t1 := fun K fu => by
        rw [e2, pq_bd, f_X9_commands_41, if_pos i21, pc_he hM e4' hL e6, pq_bd, i18, pq_s, rc_lt]
      by_cases q : a1 = Ln
      · refine ⟨s1, t1, -1, fun fu => by rw [hrd, if_pos q], fun K fu => ?_, e7, e8, i19, Or.inl ⟨rfl, cc + 1, g4, i20, by omega, by omega, i21, by rw [i18, q], e9⟩⟩
        rw [hr9, if_neg (show ¬ a1 < Ln by omega), if_neg (by decide)]
      · have hl : a1 < Ln := by omega
        have hsg := pc_sg hX e3' hL e6 59
        by_cases h59 : T a1 = 59
        · rw [if_pos ⟨hl, h59⟩] at hsg
          obtain ⟨s2, t2, res, f1, f2, f3, f4, f5, f6⟩ := ih (d - (a1 + 1 - a)) (by omega) (a1 + 1) (cc + 1) nc1 _ (rc_up t1 (x + 308) 18 (Int32.ofNat (a1 + 1))) (by omega) (by omega) (pc_cu e3') (pc_r18 e4' (a1 + 1)) (fun c hc => by
            have z := e9 c hc
            unfold pc_s at z ⊢
            rw [pq_upN (by omega), pq_upN (by omega), pq_upN (by omega)]
            exact z)
          refine ⟨s2, t2, res, fun fu => ?_, fun K fu => ?_, pc_F2t e7 (pc_F2t ⟨fun q q1 _ _ => pq_upN q1, fun j _ j2 _ => by rw [pq_upE, pq_udN j2]⟩ f3), pc_G2t e8 (pc_G2t ⟨fun q q1 _ => pq_upN q1, fun j j1 _ _ => by rw [pq_upE, pq_udN j1]⟩ f4), f5, f6⟩
          · have z := f1 (fu + (a1 - a))
            rw [show fu + (a1 - a) + (d - (a1 + 1 - a)) + 1 = fu + d by omega] at z
            rw [hrd, if_neg q, hsg, pq_bd, if_neg (by decide), z]
          · have z := f2 K (fu + (a1 - a))
            rw [show fu + (a1 - a) + (d - (a1 + 1 - a)) + 1 = fu + d by omega] at z
            rw [hr9, if_pos hl, if_pos h59, z]
        · rw [if_neg (fun z => h59 z.2)] at hsg
          refine ⟨s1, t1, Int32.ofNat a1, fun fu => ?_, fun K fu => ?_, e7, e8, i19, Or.inr ⟨a1, e6, rfl, i18, Or.inr ⟨i21, hl⟩⟩⟩
          · rw [hrd, if_neg q, hsg, pq_bd, if_pos rfl, g5]
          · rw [hr9, if_pos hl, if_neg h59]
    · refine ⟨s1, t1, Int32.ofNat a1, fun fu => ?_, fun K fu => ?_, e7, e8, e4.2.2.2.1, Or.inr ⟨a1, e6, rfl, e4.1, Or.inl e4.2.2.1⟩⟩
      · rw [f_X6_read_12, if_neg (fun z => by have := (pq_le (n := 60) (by decide) (by omega)).mp z; omega), e1, pq_bd, if_pos rfl, e3.1]
      · rw [e2, pq_bd, f_X9_commands_41, if_neg (by rw [e4.2.2.1]; decide)]
end PQPC
