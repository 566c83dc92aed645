/-! A TEXT OF COMMANDS, the class alone -/
section PB9
variable {rf : rc_F} {z : rc_Z} {x a cc nc Ln m K F N : Nat} {σ : rc_S} {T : Nat → Int32} {G : Nat → pG} {L : List Nat} {q : pG}
theorem pe_lock (hX : pq_X rf x) {r : Nat} (hr : r < 5) (hL : Ln ≤ 60) (hc : cc < 60) : ∀ (ps : List Int32) (i : Nat) (σ : rc_S) (a nc : Nat), (rc_byt.getD r []).drop i = ps → i + ps.length = rc_len.getD r 0 → nc + pc_nn ps ≤ 3 → pc_c σ x a cc nc Ln T → a ≤ Ln →
    (∃ σ' a', (∀ (K : Int32 → rc_S → Option (Int32 × rc_S)) (fu : Nat), f_X6_readCommand_78 rf (x + 302) r K (fu + ps.length + 1) (Int32.ofNat i) σ = K (Int32.ofNat (rc_len.getD r 0)) σ') ∧ pc_c σ' x a' cc (nc + pc_nn ps) Ln T ∧ a ≤ a' ∧ a' ≤ Ln ∧ pc_F σ σ' x (3 * cc)) ∨
    (∃ σ' a' nc', (∀ (K : Int32 → rc_S → Option (Int32 × rc_S)) (fu : Nat), f_X6_readCommand_78 rf (x + 302) r K (fu + ps.length + 1) (Int32.ofNat i) σ = some (0, σ')) ∧ pc_c σ' x a' cc nc' Ln T ∧ a ≤ a' ∧ a' ≤ Ln ∧ pc_F σ σ' x (3 * cc)) := by
  have hlen := (pc_chk r hr).2.2.1
  have hl5 := (pc_chk r hr).2.1
  intro ps
  induction ps with
  | nil =>
    intro i σ a nc hd hi hn h1 ha
    refine Or.inl ⟨σ, a, fun K fu => ?_, h1, Nat.le_refl _, ha, pc_Fr⟩
    have e : i = rc_len.getD r 0 := by simpa using hi
    rw [f_X6_readCommand_78, pc_len hr, pq_bd, ← e, if_pos (Int32.le_refl _)]
  | cons p ps ih =>
    intro i σ a nc hd hi hn h1 ha
    rw [List.length_cons] at hi
    have hil : i < rc_len.getD r 0 := by omega
    have hpi : (rc_byt.getD r []).getD i 0 = p := by
      have e : (rc_byt.getD r [])[i]? = some p := by
        have q : ((rc_byt.getD r []).drop i)[0]? = some p := by rw [hd]; rfl
        rw [List.getElem?_drop] at q
        exact q
      rw [List.getD_eq_getElem?_getD, e]; rfl
    have hd2 : (rc_byt.getD r []).drop (i + 1) = ps := by
      have q : ((rc_byt.getD r []).drop i).drop 1 = ps := by rw [hd]; rfl
      rw [List.drop_drop] at q
      exact q
    have hni : ¬ Int32.ofNat (rc_len.getD r 0) ≤ Int32.ofNat i := fun q => by have := (pq_le (by omega) (by omega)).mp q; omega
    have head : ∀ (K : Int32 → rc_S → Option (Int32 × rc_S)) (fu : Nat), f_X6_readCommand_78 rf (x + 302) r K (fu + (p :: ps).length + 1) (Int32.ofNat i) σ = rc_bd (f_X6_readPart rf (x + 302) p σ) fun w_10 σ_10 => if w_10 = 0 then some ((0 : Int32), σ_10) else rc_lt (Int32.ofNat i + 1) fun v2_11 => f_X6_readCommand_78 rf (x + 302) r K (fu + ps.length + 1) v2_11 σ_10 := fun K fu => by
      rw [show fu + (p :: ps).length + 1 = (fu + ps.length + 1) + 1 from rfl, f_X6_readCommand_78, pc_len hr, pq_bd, if_neg hni, pc_chr hr hil, pq_bd, hpi]
    by_cases hpp : p = 100 ∨ p = 110
    · obtain ⟨most, hm, hrp⟩ : ∃ most : Int32, (most = 1 ∨ most = 2) ∧ (∀ s, f_X6_readPart rf (x + 302) p s = rc_bd (f_X6_readNumber rf (x + 302) most s) fun w_2 σ_2 => rc_ck (decide (vp_nar .boolean w_2 = w_2)) <| some (w_2, σ_2)) := by
        by_cases p1 : p = 100
        · exact ⟨1, Or.inl rfl, fun s => by rw [f_X6_readPart, if_pos p1]⟩
        · have p2 : p = 110 := by rcases hpp with q | q; exact absurd q p1; exact q
          exact ⟨2, Or.inr rfl, fun s => by rw [f_X6_readPart, if_neg p1, if_pos p2]⟩
      have hn2 : nc + 1 + pc_nn ps ≤ 3 := by rw [pc_nn, if_pos hpp] at hn; omega
      have hnn : nc + pc_nn (p :: ps) = nc + 1 + pc_nn ps := by rw [pc_nn, if_pos hpp]; omega
      rcases pc_nm hX h1 hL ha (show nc < 3 by omega) hc most hm with ⟨hD, e1⟩ | ⟨hD, s1, a1, v1, e1, e2, e3, e4, e5, e6, e7, e8⟩
      · refine Or.inr ⟨σ, a, nc, fun K fu => ?_, h1, Nat.le_refl _, ha, pc_Fr⟩
        rw [head, hrp, e1, pq_bd, pq_cd (by decide), pq_bd, if_pos rfl]
      · rcases ih (i + 1) s1 a1 (nc + 1) hd2 (by omega) hn2 e2 e4 with ⟨s2, a3, g1, g3, g5, g6, g7⟩ | ⟨s2, a3, nc3, g1, g3, g5, g6, g7⟩
        · refine Or.inl ⟨s2, a3, fun K fu => ?_, by rw [hnn]; exact g3, by omega, g6, pc_Ft e5 g7⟩
          rw [head, hrp, e1, pq_bd, pq_cd (by decide), pq_bd, if_neg (by decide), rc_lt, pq_s, g1]
        · refine Or.inr ⟨s2, a3, nc3, fun K fu => ?_, g3, by omega, g6, pc_Ft e5 g7⟩
          rw [head, hrp, e1, pq_bd, pq_cd (by decide), pq_bd, if_neg (by decide), rc_lt, pq_s, g1]
    · have p1 : p ≠ 100 := fun q => hpp (Or.inl q)
      have p2 : p ≠ 110 := fun q => hpp (Or.inr q)
      have hrp : ∀ s, f_X6_readPart rf (x + 302) p s = rc_bd (f_X6_readSign rf (x + 302) p s) fun w_2 σ_2 => rc_ck (decide (vp_nar .boolean w_2 = w_2)) <| some (w_2, σ_2) := fun s => by rw [f_X6_readPart, if_neg p1, if_neg p2]
      have hnn : pc_nn (p :: ps) = pc_nn ps := by rw [pc_nn, if_neg (fun q => by rcases q with q | q; exact p1 q; exact p2 q), Nat.zero_add]
      rw [hnn] at hn ⊢
      have e1 := pc_sg hX h1 hL ha p
      by_cases k1 : a < Ln ∧ T a = p
      · rw [if_pos k1] at e1
        rcases ih (i + 1) _ (a + 1) nc hd2 (by omega) hn (pc_cu h1) (by omega) with ⟨s2, a3, g1, g3, g5, g6, g7⟩ | ⟨s2, a3, nc3, g1, g3, g5, g6, g7⟩
        · refine Or.inl ⟨s2, a3, fun K fu => ?_, g3, by omega, g6, pc_Ft pc_cF g7⟩
          rw [head, hrp, e1, pq_bd, pq_cd (by decide), pq_bd, if_neg (by decide), rc_lt, pq_s, g1]
        · refine Or.inr ⟨s2, a3, nc3, fun K fu => ?_, g3, by omega, g6, pc_Ft pc_cF g7⟩
          rw [head, hrp, e1, pq_bd, pq_cd (by decide), pq_bd, if_neg (by decide), rc_lt, pq_s, g1]
      · rw [if_neg k1] at e1
        refine Or.inr ⟨σ, a, nc, fun K fu => ?_, h1, Nat.le_refl _, ha, pc_Fr⟩
        rw [head, hrp, e1, pq_bd, pq_cd (by decide), pq_bd, if_pos rfl]
theorem pe_one (hX : pq_X rf x) (hL : Ln ≤ 60) (hc : cc < 60) (hT1 : ∀ k, k < Ln → vp_nar .char (T k) = T k) (h1 : pc_c σ x a cc nc Ln T) (ha : a ≤ Ln) (hst : ∀ c, c < cc → pc_fo (σ (x + 304) c) < 5) :
    (∃ σ' a' nc', f_X6_readCommand rf (x + 302) σ = some (1, σ') ∧ pc_c σ' x a' (cc + 1) nc' Ln T ∧ a < a' ∧ a' ≤ Ln ∧ pc_F2 σ σ' x ∧ ∀ c, c < cc + 1 → pc_fo (σ' (x + 304) c) < 5) ∨
    (∃ σ' a' cc' nc', f_X6_readCommand rf (x + 302) σ = some (0, σ') ∧ pc_c σ' x a' cc' nc' Ln T ∧ a' ≤ Ln ∧ pc_F2 σ σ' x) := by
  have h1' := h1
  obtain ⟨h5, h4, h6, h1L, hTc⟩ := h1
  by_cases hl : a < Ln
  · have hnl : ¬ Int32.ofNat Ln ≤ Int32.ofNat a := fun q => by have := (pq_le (by omega) (by omega)).mp q; omega
    obtain ⟨r, i1, i2⟩ := pc_ixo (rf := rf) (σ := σ) (T a)
    by_cases hf : pc_fo (T a) = 5
    · refine Or.inr ⟨σ, a, cc, nc, ?_, h1', ha, pc_F2r⟩
      rw [f_X6_readCommand, h1L, h5, if_neg hnl, pq_in (by omega) (by decide), pq_ck, pq_t0 hX, pq_cl (by omega), hTc a hl, i1, pq_bd, if_neg (fun q => by have := i2.mp q; omega)]
    · have hf5 : pc_fo (T a) < 5 := by have := pc_fo6 (T a); omega
      obtain ⟨k1, k2, k3, k4⟩ := pc_fok _ hf5
      have c0 : pc_c (rc_up (rc_up (rc_up σ (x + 304) cc (T a)) (x + 302) 6 0) (x + 302) 5 (Int32.ofNat (a + 1))) x (a + 1) cc 0 Ln T := ⟨by rw [pq_upE, pq_udE], by rw [pq_upE, pq_udN (by decide), pq_upE, pq_udN (by decide), pq_upN (by omega)]; exact h4, by rw [pq_upE, pq_udN (by decide), pq_upE, pq_udE]; rfl, by rw [pq_upE, pq_udN (by decide), pq_upE, pq_udN (by decide), pq_upN (by omega)]; exact h1L, fun k hk => by rw [pq_upN (by omega), pq_upN (by omega), pq_upN (by omega)]; exact hTc k hk⟩
      have head : f_X6_readCommand rf (x + 302) σ = f_X6_readCommand_78 rf (x + 302) (pc_fo (T a)) (fun v2_14 σ_15 => rc_lt (rc_up σ_15 (x + 302) 4 ((σ_15 (x + 302) 4) + (1 : Int32))) fun σ_16 => some ((1 : Int32), σ_16)) rc_fu (0 : Int32) (rc_up (rc_up (rc_up σ (x + 304) cc (T a)) (x + 302) 6 0) (x + 302) 5 (Int32.ofNat (a + 1))) := by
        rw [f_X6_readCommand, h1L, h5, if_neg hnl, pq_in (by omega) (by decide), pq_ck, pq_t0 hX, pq_cl (by omega), hTc a hl, i1, pq_bd, if_pos (i2.mpr hf5), h5, pq_in (by omega) (by decide), pq_ck, pq_cl (by omega), hTc a hl, pc_fof hf5, pq_bd, pq_cd (show pc_fo (T a) < 13 by omega), h5, pq_in (by omega) (by decide), pq_ck, h4, pq_in (by omega) (by decide), pq_ck, pq_t2 hX, pq_cl (by omega), pq_cl (by omega), hTc a hl, hT1 a hl, rc_lt, rc_lt, rc_lt, pq_upE, pq_udN (by decide), pq_upN (by omega), h5, pq_s]
      rcases pe_lock (T := T) hX hf5 hL hc (pc_fm (pc_fo (T a))) 0 _ (a + 1) 0 k4 (by rw [Nat.zero_add]; exact k1) k2 c0 (by omega) with ⟨s1, a1, e1, e3, e5, e6, e7⟩ | ⟨s1, a1, nc1, e1, e3, e5, e6, e7⟩
      · rw [Nat.zero_add] at e3
        have hx := e1 (fun v2_14 σ_15 => rc_lt (rc_up σ_15 (x + 302) 4 ((σ_15 (x + 302) 4) + (1 : Int32))) fun σ_16 => some ((1 : Int32), σ_16)) (99999 - (pc_fm (pc_fo (T a))).length)
        rw [← pq_fu _ (by have := (pc_chk _ hf5).2.1; omega), show Int32.ofNat 0 = (0 : Int32) from rfl] at hx
        obtain ⟨g5, g4, g6, g1, gT⟩ := e3
        refine Or.inl ⟨rc_up s1 (x + 302) 4 (Int32.ofNat (cc + 1)), a1, pc_nn (pc_fm (pc_fo (T a))), ?_, ⟨?_, ?_, ?_, ?_, fun k hk => ?_⟩, by omega, e6, ⟨fun q q1 q2 q3 => ?_, fun j j1 j2 j3 => ?_⟩, fun c hcc => ?_⟩
        · rw [head, hx, rc_lt, g4, pq_s]
        · rw [pq_upE, pq_udN (by decide)]; exact g5
        · rw [pq_upE, pq_udE]
        · rw [pq_upE, pq_udN (by decide)]; exact g6
        · rw [pq_upE, pq_udN (by decide)]; exact g1
        · rw [pq_upN (by omega)]; exact gT k hk
        · rw [pq_upN q1, e7.1 q q1 q3, pq_upN q1, pq_upN q1, pq_upN q2]
        · rw [pq_upE, pq_udN j1, e7.2.1 j j2 j3, pq_upE, pq_udN j2, pq_upE, pq_udN j3, pq_upN (by omega)]
        · rw [show rc_up s1 (x + 302) 4 (Int32.ofNat (cc + 1)) (x + 304) c = upd (σ (x + 304)) cc (T a) c by rw [pq_upN (by omega), e7.1 _ (by omega) (by omega), pq_upN (by omega), pq_upN (by omega), pq_upE]]
          by_cases e : c = cc
          · subst e; rw [pq_udE]; exact hf5
          · rw [pq_udN e]; exact hst c (by omega)
      · have hx := e1 (fun v2_14 σ_15 => rc_lt (rc_up σ_15 (x + 302) 4 ((σ_15 (x + 302) 4) + (1 : Int32))) fun σ_16 => some ((1 : Int32), σ_16)) (99999 - (pc_fm (pc_fo (T a))).length)
        rw [← pq_fu _ (by have := (pc_chk _ hf5).2.1; omega), show Int32.ofNat 0 = (0 : Int32) from rfl] at hx
        refine Or.inr ⟨s1, a1, cc, nc1, by rw [head, hx], e3, e6, ⟨fun q q1 q2 q3 => ?_, fun j j1 j2 j3 => ?_⟩⟩
        · rw [e7.1 q q1 q3, pq_upN q1, pq_upN q1, pq_upN q2]
        · rw [e7.2.1 j j2 j3, pq_upE, pq_udN j2, pq_upE, pq_udN j3, pq_upN (by omega)]
  · refine Or.inr ⟨σ, a, cc, nc, ?_, h1', ha, pc_F2r⟩
    rw [f_X6_readCommand, h1L, h5, if_pos ((pq_le (by omega) (by omega)).mpr (by omega))]
/-- with one semicolon, in the second place: two commands at most, or a fault -/
theorem pe_seq (hX : pq_X rf x) (hL : Ln ≤ 60) (hT1 : ∀ k, k < Ln → vp_nar .char (T k) = T k) (h59 : ∀ k, k < Ln → T k = 59 → k = 1) : ∀ (d a cc nc : Nat) (σ : rc_S), a + d = Ln → (cc = 0 ∨ (cc = 1 ∧ 2 ≤ a)) → pc_c σ x a cc nc Ln T → (∀ c, c < cc → pc_fo (σ (x + 304) c) < 5) →
    ∃ σ' res, (∀ fu, f_X6_read_12 rf (x + 302) (fun _ σ_11 => some ((σ_11 (x + 302) 5), σ_11)) (fu + d + 1) (Int32.ofNat cc) σ = some (res, σ')) ∧ pc_F2 σ σ' x ∧ ((res = -1 ∧ ∃ cc', cc' ≤ 2 ∧ σ' (x + 302) 4 = Int32.ofNat cc' ∧ ∀ c, c < cc' → pc_fo (σ' (x + 304) c) < 5) ∨ (∃ a', a' ≤ Ln ∧ res = Int32.ofNat a')) := by
  intro d
  induction d using Nat.strongRecOn with
  | _ d ih =>
    intro a cc nc σ hd h2c h1 hst
    rcases pe_one hX hL (show cc < 60 by omega) hT1 h1 (by omega) hst with ⟨s1, a1, nc1, e1, e3, e5, e6, e7, e9⟩ | ⟨s1, a1, cc1, nc1, e1, e3, e6, e7⟩
    · have e3' := e3
      obtain ⟨g5, g4, g6, g1, gT⟩ := e3
      have hrd : ∀ fu, f_X6_read_12 rf (x + 302) (fun _ σ_11 => some ((σ_11 (x + 302) 5), σ_11)) (fu + d + 1) (Int32.ofNat cc) σ = if a1 = Ln then some (-1, s1) else rc_bd (f_X6_readSign rf (x + 302) (59 : Int32) s1) fun w_4 σ_4 => if w_4 = 0 then some ((σ_4 (x + 302) 5), σ_4) else f_X6_read_12 rf (x + 302) (fun _ σ_11 => some ((σ_11 (x + 302) 5), σ_11)) (fu + d) (Int32.ofNat (cc + 1)) σ_4 := fun fu => by
        rw [f_X6_read_12, if_neg (fun z => by have := (pq_le (n := 60) (by decide) (by omega)).mp z; omega), e1, pq_bd, if_neg (by decide), g5, g1]
        by_cases q : a1 = Ln
        · rw [if_pos (by rw [q]), if_pos q]
        · rw [if_neg (fun z => q ((pq_eq (by omega) (by omega)).mp z)), if_neg q]
          simp only [rc_lt, pq_s]
      by_cases q : a1 = Ln
      · exact ⟨s1, -1, fun fu => by rw [hrd, if_pos q], e7, Or.inl ⟨rfl, cc + 1, by omega, g4, e9⟩⟩
      · have hl : a1 < Ln := by omega
        have hsg := pc_sg hX e3' hL e6 59
        by_cases h5 : T a1 = 59
        · have ha1 := h59 a1 hl h5
          rw [if_pos ⟨hl, h5⟩] at hsg
          obtain ⟨s2, res, f1, f3, f6⟩ := ih (d - (a1 + 1 - a)) (by omega) (a1 + 1) (cc + 1) nc1 _ (by omega) (by omega) (pc_cu e3') (fun c hc => by
            rw [pq_upN (by omega)]; exact e9 c hc)
          refine ⟨s2, res, fun fu => ?_, pc_F2t e7 (pc_F2t ⟨fun q q1 _ _ => pq_upN q1, fun j _ j2 _ => by rw [pq_upE, pq_udN j2]⟩ f3), f6⟩
          have z := f1 (fu + (a1 - a))
          rw [show fu + (a1 - a) + (d - (a1 + 1 - a)) + 1 = fu + d by omega] at z
          rw [hrd, if_neg q, hsg, pq_bd, if_neg (by decide), z]
        · rw [if_neg (fun z => h5 z.2)] at hsg
          refine ⟨s1, Int32.ofNat a1, fun fu => ?_, e7, Or.inr ⟨a1, e6, rfl⟩⟩
          rw [hrd, if_neg q, hsg, pq_bd, if_pos rfl, g5]
    · refine ⟨s1, Int32.ofNat a1, fun fu => ?_, e7, Or.inr ⟨a1, e6, rfl⟩⟩
      rw [f_X6_read_12, if_neg (fun z => by have := (pq_le (n := 60) (by decide) (by omega)).mp z; omega), e1, pq_bd, if_pos rfl, e3.1]
theorem pk_weak {A : rc_S → Option (Int32 × rc_S)} {Ψ : Prop} {Θ : (Nat → Int32) → Nat → Nat → Int32 → (Nat → Int32) → Prop} (h : pk_Op x A Ψ Θ) : pk_Op x A True (fun _ _ _ _ _ => True) := by
  intro σ n p Bd g hR hV hB hP
  rcases h σ n p Bd g hR hV hB hP with ⟨code, det, _, e⟩ | ⟨v, σ', g', n', p', h1, h2, h3, h4, h5, h6, _⟩
  · exact Or.inl ⟨code, det, trivial, e⟩
  · exact Or.inr ⟨v, σ', g', n', p', h1, h2, h3, h4, h5, h6, trivial⟩
theorem pe_do (hX : pq_X rf x) {c : Nat} (hc : c < 60) : ∃ A, pk_Op x A True (fun _ _ _ _ _ => True) ∧ f_X8_carryOut rf x (Int32.ofNat c) σ = A σ := by
  rw [f_X8_carryOut, pq_x6 hX, pq_x0 hX, f_X6_numberOf, pc_x0, pq_in (show 3 * c < 180 by omega) (by decide), pq_ck, pq_cl (show 3 * c < 2147483648 by omega), pq_t3 hX, pq_bd, f_X6_numberOf, pc_x1, pq_in (show 3 * c + 1 < 180 by omega) (by decide), pq_ck, pq_cl (show 3 * c + 1 < 2147483648 by omega), pq_t3 hX, pq_bd, pq_in hc (by decide), pq_ck, pq_t2 hX, pq_cl (show c < 2147483648 by omega)]
  by_cases c98 : σ (x + 304) c = 98
  · exact ⟨_, pk_weak (pk_place hX), by rw [if_pos c98, pc_so]⟩
  rw [if_neg c98]
  by_cases c99 : σ (x + 304) c = 99
  · exact ⟨_, pk_weak (pk_clear hX), by rw [if_pos c99, pc_so]⟩
  rw [if_neg c99]
  by_cases c103 : σ (x + 304) c = 103
  · exact ⟨_, pk_weak (pk_drink hX), by rw [if_pos c103, pc_so]⟩
  rw [if_neg c103]
  by_cases c104 : σ (x + 304) c = 104
  · exact ⟨_, pk_weak (pk_hail hX), by rw [if_pos c104, pc_so]⟩
  rw [if_neg c104]
  by_cases c108 : σ (x + 304) c = 108
  · exact ⟨_, pk_weak (pk_leave hX), by rw [if_pos c108, pc_so]⟩
  rw [if_neg c108]
  by_cases c109 : σ (x + 304) c = 109
  · exact ⟨_, pk_weak (pk_join hX (Or.inl rfl)), by rw [if_pos c109, pc_so]⟩
  rw [if_neg c109]
  by_cases c112 : σ (x + 304) c = 112
  · exact ⟨_, pk_weak (pk_pour hX), by rw [if_pos c112, f_X6_numberOf, pc_x2, pq_in (show 3 * c + 2 < 180 by omega) (by decide), pq_ck, pq_cl (show 3 * c + 2 < 2147483648 by omega), pq_t3 hX, pq_bd, pc_so]⟩
  rw [if_neg c112]
  by_cases c115 : σ (x + 304) c = 115
  · exact ⟨_, pk_weak (pk_storm hX), by rw [if_pos c115, pc_so]⟩
  rw [if_neg c115]
  by_cases c116 : σ (x + 304) c = 116
  · exact ⟨_, pk_weak (pk_join hX (Or.inr rfl)), by rw [if_pos c116, pc_so]⟩
  rw [if_neg c116]
  by_cases c120 : σ (x + 304) c = 120
  · exact ⟨_, pk_weak (pk_take hX), by rw [if_pos c120, pc_so]⟩
  rw [if_neg c120]
  exact ⟨_, pk_weak (pk_year hX), by rw [pc_so]⟩
/-- between setting aside and keeping -/
def pL (σ : rc_S) (x : Nat) (G : Nat → pG) (m K F : Nat) (L : List Nat) (cc : Nat) (q : pG) : Prop := pq_R σ (x + 2) q.1 q.2.1 q.2.2 ∧ pH σ x G m K F ∧ pq_R σ (x + 59 + 27 * ((F + K) % 9)) (G m).1 (G m).2.1 (G m).2.2 ∧ pq_OC σ x L ∧ σ (x + 302) 1 = 0 ∧ σ (x + 302) 4 = Int32.ofNat cc
theorem pL_f {σ' : rc_S} {q' : pG} (h : pL σ x G m K F L cc q) (hV : pVI G m N) (hR : pq_R σ' (x + 2) q'.1 q'.2.1 q'.2.2) (fr : ∀ a, (a < x + 2 ∨ x + 29 ≤ a) → a ≠ x + 29 → σ' a = σ a) : pL σ' x G m K F L cc q' := by
  obtain ⟨h1, h2, h3, h4, h5, h6⟩ := h
  have hm3 : (F + K) % 9 < 9 := Nat.mod_lt _ (by decide)
  exact ⟨hR, pH_f h2 hV (fr _ (by omega) (by omega)) (fun a _ _ => Or.inr (fr a (by omega) (by omega))), pq_Rf h3 (pq_vn (hV m (Nat.le_refl m)).1) (fun a _ _ => fr a (by omega) (by omega)), pq_OCf h4 (fr _ (by omega) (by omega)) (fr _ (by omega) (by omega)), by rw [fr _ (by omega) (by omega)]; exact h5, by rw [fr _ (by omega) (by omega)]; exact h6⟩
theorem pe_loop (hX : pq_X rf x) (hcc : cc ≤ 2) (hV : pVI G m N) (hN : N ≤ 880) : ∀ (d i : Nat) (σ : rc_S) (q : pG), i + d = cc → pL σ x G m K F L cc q → pq_V q.1 q.2.1 q.2.2 (N + i) → pI q.1 q.2.1 →
    (∃ σ' q', (∀ (J : Int32 → rc_S → Option (Nat × Int32 × rc_S)) (fu : Nat), f_X8_commands_47 rf x J (fu + d + 1) (Int32.ofNat i) σ = J (Int32.ofNat cc) σ') ∧ pL σ' x G m K F L cc q' ∧ pq_V q'.1 q'.2.1 q'.2.2 (N + cc) ∧ pI q'.1 q'.2.1) ∨
    (∃ σ', (∀ (J : Int32 → rc_S → Option (Nat × Int32 × rc_S)) (fu : Nat), f_X8_commands_47 rf x J (fu + d + 1) (Int32.ofNat i) σ = some (1, 0, σ')) ∧ pKx σ' x G m K F L) := by
  intro d
  induction d with
  | zero =>
    intro i σ q h hL hVq hIq
    have hi : i = cc := by omega
    subst hi
    refine Or.inl ⟨σ, q, fun J fu => ?_, hL, hVq, hIq⟩
    rw [f_X8_commands_47, pq_x6 hX, hL.2.2.2.2.2, if_pos (Int32.le_refl _)]
  | succ d ih =>
    intro i σ q h hL hVq hIq
    obtain ⟨A, hA, eA⟩ := pe_do (σ := σ) hX (show i < 60 by omega)
    have head : ∀ (J : Int32 → rc_S → Option (Nat × Int32 × rc_S)) (fu : Nat), f_X8_commands_47 rf x J (fu + (d + 1) + 1) (Int32.ofNat i) σ = rc_bd (A σ) fun w_5 σ_5 => if w_5 = (-1 : Int32) then rc_bd (f_X2_aside rf (x + 57) σ_5) fun w_7 σ_7 => rc_bd (f_X1_copy rf (x + 2) w_7 σ_7) fun _ σ_8 => rc_lt (rc_up σ_8 (x + 29) 2 (Int32.ofNat i)) fun σ_9 => some (1, (0 : Int32), σ_9) else rc_lt (Int32.ofNat i + 1) fun v1_6 => f_X8_commands_47 rf x J (fu + d + 1) v1_6 σ_5 := fun J fu => by
      rw [show fu + (d + 1) + 1 = (fu + d + 1) + 1 from rfl, f_X8_commands_47, pq_x6 hX, hL.2.2.2.2.2, if_neg (fun q => by have := (pq_le (by omega) (by omega)).mp q; omega), eA, pq_x5 hX, pq_x1 hX, pq_x2 hX]
    rcases hA σ _ _ (N + i) _ hL.1 hVq (by omega) hIq with ⟨code, det, _, e⟩ | ⟨v, σ1, g', n', p', v0, e, fr, c1, c2, c3, _⟩
    · right
      have fr : ∀ a, a ≠ x + 29 → rc_up (rc_up (rc_up σ (x + 29) 0 code) (x + 29) 1 det) (x + 29) 2 0 a = σ a := fun a ha => by rw [pq_upN ha, pq_upN ha, pq_upN ha]
      obtain ⟨h1, h2, h3, h4, h5, h6⟩ := hL
      have hH := h2
      obtain ⟨k8, km, hF, e2, e1, hj⟩ := h2
      have hm3 : (F + K) % 9 < 9 := Nat.mod_lt _ (by decide)
      have ha := q8_asd (σ := rc_up (rc_up (rc_up σ (x + 29) 0 code) (x + 29) 1 det) (x + 29) 2 0) hX k8 hF (by rw [fr _ (by omega)]; exact e2) (by rw [fr _ (by omega)]; exact e1)
      obtain ⟨t, b1, b2, b3⟩ := qc (rf := rf) (c1 := x + 2) (c2 := x + 59 + 27 * ((F + K) % 9)) (pq_xk hX) (pq_xh hX hm3) (by omega) (rc_up (rc_up (rc_up σ (x + 29) 0 code) (x + 29) 1 det) (x + 29) 2 0)
      have hVm := (hV m (Nat.le_refl m)).1
      have Rt := b3 _ _ _ N (pq_Rf h3 (pq_vn hVm) (fun a _ _ => fr a (by omega))) hVm
      have z0 : ∀ a, (a < x + 2 ∨ x + 30 ≤ a) → rc_up t (x + 29) 2 (Int32.ofNat i) a = σ a := fun a q1 => by rw [pq_upN (by omega), b2 a (by omega), fr a (by omega)]
      refine ⟨rc_up t (x + 29) 2 (Int32.ofNat i), fun J fu => ?_, pq_Rf Rt (pq_vn hVm) (fun a _ _ => pq_upN (by omega)), pH_f hH hV (z0 _ (by omega)) (fun a _ _ => Or.inr (z0 a (by omega))), pq_OCf h4 (z0 _ (by omega)) (z0 _ (by omega)), by rw [z0 _ (by omega)]; exact h5⟩
      rw [head, e, pq_bd, if_pos rfl, ha, pq_bd, b1, pq_bd, rc_lt]
    · rcases ih (i + 1) σ1 (g', n', p') (by omega) (pL_f hL hV c1 (fun a a1 _ => fr a a1)) (by rw [← Nat.add_assoc]; exact c2) c3 with ⟨σ', q', i1, i2, i3, i4⟩ | ⟨σ', i1, i2⟩
      · refine Or.inl ⟨σ', q', fun J fu => ?_, i2, i3, i4⟩
        rw [head, e, pq_bd, if_neg (pq_nn v0), rc_lt, pq_s, i1]
      · refine Or.inr ⟨σ', fun J fu => ?_, i2⟩
        rw [head, e, pq_bd, if_neg (pq_nn v0), rc_lt, pq_s, i1]
/-- with a text -/
def pKt (σ : rc_S) (x : Nat) (G : Nat → pG) (m K F : Nat) (L : List Nat) (Ln : Nat) (T : Nat → Int32) : Prop := pq_R σ (x + 2) (G m).1 (G m).2.1 (G m).2.2 ∧ pH σ x G m K F ∧ pq_OC σ x L ∧ σ (x + 302) 1 = Int32.ofNat Ln ∧ ∀ k, k < Ln → σ (x + 303) k = T k
theorem pe_append (hX : pq_X rf x) (h : pKt σ x G m K F L Ln T) (hV : pVI G m N) (hL : Ln < 60) (hu : vp_nar .char (T Ln) = T Ln) : ∃ σ', f_L_append rf z x (T Ln) σ = some (Int32.ofNat (Ln + 1), σ') ∧ pKt σ' x G m K F L (Ln + 1) T ∧ ∀ a, a ≠ x + 302 → a ≠ x + 303 → σ' a = σ a := by
  obtain ⟨h1, h2, h3, h4, h5⟩ := h
  have c1 : Int32.ofNat Ln < 60 := (pq_lt (m := 60) (by omega) (by decide)).mpr hL
  have fr : ∀ a, a ≠ x + 302 → a ≠ x + 303 → rc_up (rc_up σ (x + 303) Ln (T Ln)) (x + 302) 1 (Int32.ofNat (Ln + 1)) a = σ a := fun a a1 a2 => by rw [pq_upN a1, pq_upN a2]
  refine ⟨rc_up (rc_up σ (x + 303) Ln (T Ln)) (x + 302) 1 (Int32.ofNat (Ln + 1)), ?_, ⟨pq_Rf h1 (pq_vn (hV m (Nat.le_refl m)).1) (fun a _ _ => fr a (by omega) (by omega)), pH_f h2 hV (fr _ (by omega) (by omega)) (fun a _ _ => Or.inr (fr a (by omega) (by omega))), pq_OCf h3 (fr _ (by omega) (by omega)) (fr _ (by omega) (by omega)), by rw [pq_upE, pq_udE], fun k hk => ?_⟩, fr⟩
  · rw [f_L_append, f_X8_append, pq_x6 hX, h4, if_pos c1, f_X6_add, h4, pq_in (by omega) (by decide), pq_ck, pq_t0 hX, pq_cl (by omega), rc_lt, rc_lt, pq_upN (by omega), h4, hu, pq_s, pq_bd, pq_upE, pq_udE]
    rfl
  · rw [pq_upN (by omega), pq_upE]
    by_cases e : k = Ln
    · subst e; rw [pq_udE]
    · rw [pq_udN e]; exact h5 k (by omega)
theorem pe_commands (hX : pq_X rf x) (h : pKt σ x G m K F L Ln T) (hV : pVI G m N) (hN : N ≤ 880) (hL : Ln ≤ 60) (hT1 : ∀ k, k < Ln → vp_nar .char (T k) = T k) (h59 : ∀ k, k < Ln → T k = 59 → k = 1) :
    (∃ v σ', (v = -78 ∨ v = -76) ∧ f_L_commands rf z x σ = some (v, σ') ∧ pKx σ' x G m K F L) ∨ ∃ cc σ' q, cc ≤ 2 ∧ f_L_commands rf z x σ = some (Int32.ofNat cc, σ') ∧ pKx σ' x (pG1 G m q) (m + 1) (if K = 8 then 8 else K + 1) (if K = 8 then (F + 1) % 9 else F) L ∧ pVI (pG1 G m q) (m + 1) (N + 2) := by
  obtain ⟨h1, h2, h3, h4, h5⟩ := h
  have hVm := hV m (Nat.le_refl m)
  obtain ⟨nc0, h6⟩ := pc_any (σ (x + 302) 6)
  obtain ⟨σ1, res, e1, e2, e3⟩ := pe_seq (T := T) hX hL hT1 h59 Ln 0 0 nc0 (rc_up (rc_up σ (x + 302) 5 0) (x + 302) 4 0) (by omega) (Or.inl rfl) ⟨by rw [pq_upE, pq_udN (by decide), pq_upE, pq_udE]; rfl, by rw [pq_upE, pq_udE]; rfl, by rw [pq_upE, pq_udN (by decide), pq_upE, pq_udN (by decide)]; exact h6, by rw [pq_upE, pq_udN (by decide), pq_upE, pq_udN (by decide)]; exact h4, fun k hk => by rw [pq_upN (by omega), pq_upN (by omega)]; exact h5 k hk⟩ (fun c hc => by omega)
  have hrd : f_X6_read rf (x + 302) σ = some (res, σ1) := by
    have z := e1 (99999 - Ln)
    rw [← pq_fu Ln (by omega), show Int32.ofNat 0 = (0 : Int32) from rfl] at z
    rw [f_X6_read, rc_lt, rc_lt, z]
  generalize hσ3 : rc_up (rc_up σ1 x 7 res) (x + 302) 1 0 = σ3
  have fr : ∀ a, a ≠ x → a ≠ x + 302 → a ≠ x + 304 → a ≠ x + 305 → σ3 a = σ a := fun a a1 a2 a3 a4 => by rw [← hσ3, pq_upN a2, pq_upN a1, e2.1 a a2 a3 a4, pq_upN a2, pq_upN a2]
  have h3' : pKx σ3 x G m K F L := ⟨pq_Rf h1 (pq_vn hVm.1) (fun a _ _ => fr a (by omega) (by omega) (by omega) (by omega)), pH_f h2 hV (fr _ (by omega) (by omega) (by omega) (by omega)) (fun a _ _ => Or.inr (fr a (by omega) (by omega) (by omega) (by omega))), pq_OCf h3 (fr _ (by omega) (by omega) (by omega) (by omega)) (fr _ (by omega) (by omega) (by omega) (by omega)), by rw [← hσ3, pq_upE, pq_udE]⟩
  have z7 : σ3 x 7 = res := by rw [← hσ3, pq_upN (by omega), pq_upE, pq_udE]
  have hcl : f_X8_commands rf x σ = if res = (-1 : Int32) then rc_bd (f_X2_setAside rf (x + 57) (x + 2) σ3) fun _ σ_4 => f_X8_commands_47 rf x (fun v1_12 σ_13 => rc_bd (f_X2_keepAside rf (x + 57) σ_13) fun _ σ_14 => some (0, (σ_14 (x + 302) 4), σ_14)) rc_fu (0 : Int32) σ_4 else some (3, (0 : Int32), σ3) := by
    rw [f_X8_commands, pq_x6 hX, hrd, pq_bd, rc_lt, f_X6_makeEmpty, rc_lt, pq_bd, hσ3, z7, pq_x5 hX, pq_x1 hX]
  rcases e3 with ⟨er, cc, hcc, h4', -⟩ | ⟨a', ha', er⟩
  · obtain ⟨s, b1, b2, b3, b4⟩ := pk_set hX h3' hV
    have z4 : s (x + 302) 4 = Int32.ofNat cc := by rw [b4 _ (by omega), ← hσ3, pq_upE, pq_udN (by decide), pq_upN (by omega)]; exact h4'
    rcases pe_loop hX hcc hV hN cc 0 s (G m) (by omega) ⟨b2.1, b2.2.1, b3, b2.2.2.1, b2.2.2.2, z4⟩ hVm.1 hVm.2 with ⟨σ', q', i1, i2, i3, i4⟩ | ⟨σ', i1, i2⟩
    · right
      obtain ⟨l1, l2, l3, l4, l5, l6⟩ := i2
      obtain ⟨t, d1, d2, d3⟩ := pk_keep (rf := rf) hX l2 hV l3 l1 (pq_Vm i3 (by omega)) l4 l5
      refine ⟨cc, t, q', hcc, ?_, d3, pVI_1 hV (by omega) (pq_Vm i3 (by omega)) i4⟩
      have z := i1 (fun v1_12 σ_13 => rc_bd (f_X2_keepAside rf (x + 57) σ_13) fun _ σ_14 => some (0, (σ_14 (x + 302) 4), σ_14)) (99999 - cc)
      rw [← pq_fu cc (by omega), show Int32.ofNat 0 = (0 : Int32) from rfl] at z
      rw [f_L_commands, hcl, if_pos er, b1, pq_bd, z, d1, pq_bd, d2 _ (by omega), l6]
      rfl
    · left
      refine ⟨-76, σ', Or.inr rfl, ?_, i2⟩
      have z := i1 (fun v1_12 σ_13 => rc_bd (f_X2_keepAside rf (x + 57) σ_13) fun _ σ_14 => some (0, (σ_14 (x + 302) 4), σ_14)) (99999 - cc)
      rw [← pq_fu cc (by omega), show Int32.ofNat 0 = (0 : Int32) from rfl] at z
      rw [f_L_commands, hcl, if_pos er, b1, pq_bd, z]
      rfl
  · left
    refine ⟨-78, σ3, Or.inl rfl, ?_, h3'⟩
    rw [f_L_commands, hcl, if_neg (by rw [er]; exact pq_nnN (by omega))]
    rfl
end PB9
