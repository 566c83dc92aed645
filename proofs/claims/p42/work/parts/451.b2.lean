/-! ONE BARREL IS WHOLE -/
section PB2
variable {rf : rc_F} {z : rc_Z} {σ : rc_S} {x : Nat} {g : Nat → Int32} {n p N b j : Nat}
theorem pb_jn {α β : Type} {f : α} {k : α → β} : rc_jn f k = k f := rfl
theorem pb_jq {β : Type} {f : Int32 → rc_S → β} {k : (Int32 → rc_S → β) → β} (w : Int32) (σ : rc_S) (h : ∀ J, k J = J w σ) : rc_jn f k = f w σ := h f
/-- what no question writes -/
def pF (x : Nat) (σ σ' : rc_S) : Prop := ∀ a, a ≠ x + 306 → a ≠ x + 307 → σ' a = σ a
theorem pF_r : pF x σ σ := fun _ _ _ => rfl
theorem pF_t {σ1 σ2 : rc_S} (h : pF x σ σ1) (h2 : pF x σ1 σ2) : pF x σ σ2 := fun a a1 a2 => (h2 a a1 a2).trans (h a a1 a2)
theorem pF_R {σ1 : rc_S} (h : pF x σ σ1) (hR : pq_R σ (x + 2) g n p) (hV : pq_V g n p N) : pq_R σ1 (x + 2) g n p := pq_Rf hR (pq_vn hV) (fun a _ _ => h a (by omega) (by omega))
theorem pb_le0 {v : Int32} (h : ¬ 0 < v) : v ≤ 0 := Int32.not_lt.mp h
theorem pb_ns0 (hV : pq_V g n p N) {v : Int32} (h : ¬ 0 < v) : pq_ns g p v = 0 := (pq_nsU (pq_vp hV)).mpr (fun j _ q => q.1 (pb_le0 h))
theorem pb_bit (hV : pq_V g n p N) {v : Int32} (hj : j < p) : ((pq_ns g p v) >>> ((Int32.ofNat j) &&& 31)) &&& (1 : Int32) = if ¬ v ≤ 0 ∧ ¬ v ≤ 50 - 5 * (g (63 + 2 * j) + 2 * g (64 + 2 * j)) then (1 : Int32) else 0 := by
  have h4 := pq_vp hV
  unfold pq_ns
  obtain ⟨c, hc⟩ : ∃ c : Nat → Bool, ∀ k, c k = decide (¬ v ≤ 0 ∧ ¬ v ≤ 50 - 5 * (g (63 + 2 * k) + 2 * g (64 + 2 * k))) := ⟨_, fun _ => rfl⟩
  have e : (fun (j : Nat) (a : Int32) => if ¬ v ≤ 0 ∧ ¬ v ≤ 50 - 5 * (g (63 + 2 * j) + 2 * g (64 + 2 * j)) then a ||| ((1 : Int32) <<< ((Int32.ofNat j) &&& 31)) else a) = fun j a => if c j = true then a ||| ((1 : Int32) <<< ((Int32.ofNat j) &&& 31)) else a := by
    funext k a
    rw [hc k]
    by_cases q : ¬ v ≤ 0 ∧ ¬ v ≤ 50 - 5 * (g (63 + 2 * k) + 2 * g (64 + 2 * k))
    · rw [if_pos q, if_pos (decide_eq_true q)]
    · rw [if_neg q, if_neg (by rw [decide_eq_true_eq]; exact q)]
  have e2 : (if ¬ v ≤ 0 ∧ ¬ v ≤ 50 - 5 * (g (63 + 2 * j) + 2 * g (64 + 2 * j)) then (1 : Int32) else 0) = if c j = true then (1 : Int32) else 0 := by
    rw [hc j]
    by_cases q : ¬ v ≤ 0 ∧ ¬ v ≤ 50 - 5 * (g (63 + 2 * j) + 2 * g (64 + 2 * j))
    · rw [if_pos q, if_pos (decide_eq_true q)]
    · rw [if_neg q, if_neg (by rw [decide_eq_true_eq]; exact q)]
  rw [e, e2]
  clear e e2 hc
  have key : ∀ (c0 c1 c2 c3 : Bool) (p : Nat), p < 5 → ∀ j, j < p → ((pq_fd (fun (j : Nat) (a : Int32) => if (match j with | 0 => c0 | 1 => c1 | 2 => c2 | _ => c3) = true then a ||| ((1 : Int32) <<< ((Int32.ofNat j) &&& 31)) else a) 0 p 0) >>> ((Int32.ofNat j) &&& 31)) &&& (1 : Int32) = if (match j with | 0 => c0 | 1 => c1 | 2 => c2 | _ => c3) = true then (1 : Int32) else 0 := by decide +kernel
  have k := key (c 0) (c 1) (c 2) (c 3) p (by omega) j hj
  have hm : ∀ k, k < 4 → (match k with | 0 => c 0 | 1 => c 1 | 2 => c 2 | _ => c 3) = c k := fun k hk => match k, hk with
    | 0, _ => rfl
    | 1, _ => rfl
    | 2, _ => rfl
    | 3, _ => rfl
  rw [hm j (by omega)] at k
  rw [← k]
  congr 2
  refine pq_fdE (n := p) (fun b a hb => ?_) p 0 0 (by omega)
  rw [hm b (by omega)]
theorem pb_241 (hX : pq_X rf x) (hV : pq_V g n p N) (hb : b < n) (v3 v4 v5 v6 v10 : Int32) (K : Int32 → Int32 → rc_S → Option (Int32 × rc_S)) : ∀ (d fu i : Nat) (σ : rc_S), i + d = p → pq_R σ (x + 2) g n p → f_L_isBarrel_241 rf z x (Int32.ofNat b) v3 v4 v5 v6 (pq_ns g p (pq_P g b)) v10 K (fu + d + 1) 1 (Int32.ofNat i) σ = K 1 (Int32.ofNat p) σ := by
  have h4 := pq_vp hV
  intro d
  induction d with
  | zero =>
    intro fu i σ h hR
    have hi : i = p := by omega
    subst hi
    rw [f_L_isBarrel_241, ql_acc3 hX hR hV, pq_bd, pq_v1 hV, if_pos (Int32.le_refl _)]
  | succ d ih =>
    intro fu i σ h hR
    have hni : ¬ Int32.ofNat p ≤ Int32.ofNat i := fun q => by have := (pq_le (by omega) (by omega)).mp q; omega
    rw [show fu + (d + 1) + 1 = (fu + d + 1) + 1 from rfl, f_L_isBarrel_241, ql_acc3 hX hR hV, pq_bd, pq_v1 hV, if_neg hni, ql_ntc hX hR hV (show i < p by omega) hb, pq_bd, pb_jn, if_pos (pb_bit hV (show i < p by omega)).symm]
    simp only [rc_lt, pq_s, show (1 : Int32) &&& 1 = 1 from by decide]
    exact ih fu (i + 1) σ (by omega) hR
theorem pb_min9 (t : Int32) : (if t < (9 : Int32) then t else 9) = (if t ≤ 9 then t else 9) := by grind
/-- what else holds of the row -/
def pI (g : Nat → Int32) (n : Nat) : Prop := (∀ b, b < n → g (18 + 6 * b) < g 4) ∧ g 5 + g 6 = pb_fl g n + g 8 + g 9 ∧ ∃ T, T ≤ 900 ∧ g 4 = Int32.ofNat T ∧ ∀ k, k < T → T ≤ k + 12 → ∃ s y l : Nat, 1 ≤ s ∧ s ≤ 9 ∧ y ≤ 900 ∧ l ≤ 10 * s ∧ g (71 + 3 * (k % 12)) = Int32.ofNat s ∧ g (72 + 3 * (k % 12)) = Int32.ofNat y ∧ g (73 + 3 * (k % 12)) = Int32.ofNat l ∧ Int32.ofNat y ≤ g 3
theorem pb_age (hV : pq_V g n p N) (hb : b < n) (hN : N ≤ 900) (h2 : g (16 + 6 * b) ≠ 0) : ¬ pq_A g b < 0 ∧ ¬ g 3 < pq_A g b := by
  have v3 := pq_v3 hV
  have vs := pq_vs hV hb
  obtain ⟨Y, hY, eY⟩ := pq_natL (n := N) v3.1 v3.2 (by omega)
  obtain ⟨S, hS, eS⟩ := pq_natL (n := Y) (u := g (20 + 6 * b)) vs.1 (by rw [eY, pq_ti (by omega)] at vs; exact vs.2) (by omega)
  rw [pq_A, pq_age, if_neg h2, eY, eS, ← Int32.ofNat_sub _ _ hS]
  exact ⟨pb_n0 (by omega), fun q => by have := (pq_lt (by omega) (by omega)).mp q; omega⟩
theorem pb_bar (hX : pq_X rf x) (hR : pq_R σ (x + 2) g n p) (hV : pq_V g n p N) (hN : N ≤ 900) (hI : pI g n) {L : List Nat} (hO : pq_OC σ x L) (hb : b < n) {y : Nat} (hy : y ≤ 20) : ∃ σ' L', f_L_isBarrel rf z x (Int32.ofNat b) (Int32.ofNat y) σ = some (1, σ') ∧ pF x σ σ' ∧ pq_OC σ' x L' := by
  have h4 := pq_vp hV
  have h8 := pq_vn hV
  by_cases h2 : g (16 + 6 * b) = 0
  · have ve := pq_ve hV hb h2
    have eP : pq_P g b = 0 := by rw [pq_P, pq_part, if_pos h2]
    have eA : pq_A g b = 0 := by rw [pq_A, pq_age, if_pos h2]
    have eN : pq_ns g p (pq_P g b) = 0 := pb_ns0 hV (by rw [eP]; decide)
    obtain ⟨σ1, L1, e1, f1, o1⟩ := ql_line0 (z := z) hX hR hV hO hb h2
    refine ⟨σ1, L1, ?_, f1, o1⟩
    rw [f_L_isBarrel, ql_bar1 hX hR hV hb, pq_bd, ql_bar2 hX hR hV hb, pq_bd, ql_bar6 hX hR hV hb, pq_bd, ql_bar5 hX hR hV hb, pq_bd, ql_nos hX hR hV hb, pq_bd, if_pos h2, if_pos ve.1, ql_bar3 hX hR hV hb, pq_bd, if_pos ve.2.1, ql_bar4 hX hR hV hb, pq_bd, if_pos ve.2.2.1, if_pos eA, if_pos eP, ql_noteE hX hR hV hb h2, pq_bd, if_pos rfl, ql_noteAE hX hR hV hb h2, pq_bd, if_pos rfl, if_pos eN, ql_hidE hX hR hV hb h2, pq_bd, if_pos rfl, e1, pq_bd, if_pos rfl]
  · refine ⟨σ, L, ?_, pF_r, hO⟩
    have hy3 : ¬ Int32.ofNat y < 0 ∧ ¬ 20 < Int32.ofNat y := ⟨pb_n0 (by omega), fun q => by have := (pq_lt (n := 20) (by decide) (by omega)).mp q; omega⟩
    have eA : pq_A g b = g 3 - g (20 + 6 * b) := by rw [pq_A, pq_age, if_neg h2]
    have e1 : pq_N g b 0 = ((if (g (19 + 6 * b) + (pq_A g b / (2 : Int32))) < (9 : Int32) then (g (19 + 6 * b) + (pq_A g b / (2 : Int32))) else (9 : Int32)) * ((100 : Int32) - pq_P g b)) / (100 : Int32) := by
      rw [pb_min9, pq_N, pq_nt, if_neg h2, eA, Int32.add_zero]; rfl
    have e2 : pq_N g b (Int32.ofNat y) = ((if (g (19 + 6 * b) + ((pq_A g b + Int32.ofNat y) / (2 : Int32))) < (9 : Int32) then (g (19 + 6 * b) + ((pq_A g b + Int32.ofNat y) / (2 : Int32))) else (9 : Int32)) * ((100 : Int32) - pq_P g b)) / (100 : Int32) := by
      rw [pb_min9, pq_N, pq_nt, if_neg h2, eA]; rfl
    have eP : pq_P g b = (100 : Int32) * g (17 + 6 * b) / g (16 + 6 * b) := by rw [pq_P, pq_part, if_neg h2]
    obtain ⟨Hh, Li, T, a1, a2, a3, q17, q16, q19⟩ := pq_bN hV hb
    have c1 : ¬ (20 : Int32) < g (16 + 6 * b) := by rw [q16]; exact fun q => by have := (pq_lt (n := 20) (by decide) (by omega)).mp q; omega
    have c2 : ¬ g (17 + 6 * b) < 0 := by rw [q17]; exact pb_n0 (by omega)
    have c3 : ¬ g (16 + 6 * b) < g (17 + 6 * b) := by rw [q16, q17]; exact fun q => by have := (pq_lt (by omega) (by omega)).mp q; omega
    have c4 : ¬ g 4 ≤ g (18 + 6 * b) := Int32.not_le.mpr (hI.1 b hb)
    have c5 := pb_age hV hb hN h2
    have hw : ∀ (J : Int32 → rc_S → Option (Int32 × rc_S)), (if 0 < pq_P g b then J (1 : Int32) σ else if pq_ns g p (pq_P g b) = 0 then J (1 : Int32) σ else J (0 : Int32) σ) = J 1 σ := fun J => by
      by_cases h : 0 < pq_P g b
      · rw [if_pos h]
      · rw [if_neg h, if_pos (pb_ns0 hV h)]
    have hfin : ∀ (v : Int32), v ≠ 0 → (if (20 : Int32) < g (16 + 6 * b) then some ((0 : Int32), σ) else if g (17 + 6 * b) < 0 then some ((0 : Int32), σ) else if g (16 + 6 * b) < g (17 + 6 * b) then some ((0 : Int32), σ) else rc_ck (decide (¬ g (16 + 6 * b) = 0)) <| if pq_P g b = (((100 : Int32) * g (17 + 6 * b)) / g (16 + 6 * b)) then if (1 : Int32) = 0 then some ((0 : Int32), σ) else if (1 : Int32) = 0 then some ((0 : Int32), σ) else if v = 0 then some ((0 : Int32), σ) else rc_bd (f_L_barrelOf rf z x (Int32.ofNat b) (3 : Int32) σ) fun w_33 σ_33 => rc_bd (f_L_account rf z x (5 : Int32) σ_33) fun w_34 σ_34 => if w_34 ≤ w_33 then some ((0 : Int32), σ_34) else if pq_A g b < 0 then some ((0 : Int32), σ_34) else rc_bd (f_L_account rf z x (4 : Int32) σ_34) fun w_35 σ_35 => if w_35 < pq_A g b then some ((0 : Int32), σ_35) else some ((1 : Int32), σ_35) else some ((0 : Int32), σ)) = some (1, σ) := fun v hv => by
      rw [if_neg c1, if_neg c2, if_neg c3, pq_cd h2, if_pos eP, if_neg (by decide), if_neg (by decide), if_neg hv, ql_bar3 hX hR hV hb, pq_bd, ql_acc5 hX hR hV, pq_bd, if_neg c4, if_neg c5.1, ql_acc4 hX hR hV, pq_bd, if_neg c5.2]
    rw [f_L_isBarrel, ql_bar1 hX hR hV hb, pq_bd, ql_bar2 hX hR hV hb, pq_bd, ql_bar6 hX hR hV hb, pq_bd, ql_bar5 hX hR hV hb, pq_bd, ql_nos hX hR hV hb, pq_bd, if_neg h2, ql_bar4 hX hR hV hb, pq_bd, rc_lt, ql_bar4 hX hR hV hb, pq_bd, rc_lt, ql_note hX hR hV hb h2, pq_bd, pb_jn, if_pos e1, ql_noteA hX hR hV (by omega) hb h2, pq_bd, if_pos e1, ql_noteIn hX hR hV hb h2 hy3, pq_bd, if_pos e2]
    show rc_jn _ _ = some (1, σ)
    have h241 := fun v3 v4 v5 v6 v10 K => pb_241 (z := z) hX hV hb v3 v4 v5 v6 v10 K p (4 - p) 0 σ (by omega) hR
    rw [show 4 - p + p + 1 = 5 by omega, show Int32.ofNat 0 = (0 : Int32) from rfl] at h241
    refine (pb_jq 1 σ hw).trans ?_
    refine (h241 _ _ _ _ _ _).trans ?_
    show rc_bd (f_L_hidden rf z x (Int32.ofNat b) σ) _ = some (1, σ)
    by_cases h5 : pq_ns g p (pq_P g b) = 0
    · obtain ⟨D, M, d1, d2, d3, d4, d5, d6⟩ := ql_hid (z := z) hX hR hV hb h2 h5
      rw [d5, pq_bd, ql_acc2 hX hR hV, pq_bd, rc_lt, d6, pq_bd, pb_jn, if_pos rfl, if_pos h5, if_neg (pb_n0 (by omega)), d3, if_neg (fun q => by have := (pq_lt (by omega) (by omega)).mp q; omega), ql_acc3 hX hR hV, pq_bd]
      by_cases hp : 0 < g 1
      · rw [if_pos hp]
        exact hfin 1 (by decide)
      · have p0 : p = 0 := by
          rw [pq_v1 hV] at hp
          by_cases q : p = 0
          · exact q
          · exact absurd ((pq_lt (n := 0) (by decide) (by omega)).mpr (by omega)) hp
        rw [if_neg hp, if_pos (by rw [d4 p0])]
        exact hfin 1 (by decide)
    · obtain ⟨d5, d6⟩ := ql_hidN (z := z) hX hR hV hb h2 h5
      rw [d5, pq_bd, ql_acc2 hX hR hV, pq_bd, rc_lt, d6, pq_bd, pb_jn, if_pos rfl, if_neg h5, if_pos rfl]
      exact hfin 1 (by decide)
end PB2
