/-! WHAT ONE ROUND DOES -/
theorem pl_ush (w : Int32) : ∃ c, c < 2147483648 ∧ ((w).toUInt32 >>> (((1 : Int32)).toUInt32 &&& Int32.toUInt32 31)).toInt32 = Int32.ofNat c := by
  refine ⟨((w).toUInt32 >>> (((1 : Int32)).toUInt32 &&& Int32.toUInt32 31)).toNat, ?_, ?_⟩
  · rw [UInt32.toNat_shiftRight, show ((((1 : Int32)).toUInt32 &&& Int32.toUInt32 31)).toNat % 32 = 1 from by decide, Nat.shiftRight_eq_div_pow]
    have := w.toUInt32.toNat_lt
    omega
  · have h : ∀ v : Int32, v = Int32.ofNat v.toBitVec.toNat := fun v => by rw [Int32.ofNat_bitVecToNat]; rfl
    exact h _
def pOut (x : Nat) (G : Nat → pG) (m K F : Nat) (L : List Nat) (N kd a st : Nat) (r : Option (Int32 × rc_S)) : Prop :=
  (∃ w σ', (w = -76 ∨ w = -78) ∧ ¬ (2 < kd ∧ kd < 7) ∧ r = some (w, σ') ∧ pKx σ' x G m K F L) ∨
  (∃ (w : Int32) (σ' : rc_S) (q : pG), 0 ≤ w.toInt ∧ r = some (w, σ') ∧ pKx σ' x (pG1 G m q) (m + 1) (if K = 8 then 8 else K + 1) (if K = 8 then (F + 1) % 9 else F) L ∧ pVI (pG1 G m q) (m + 1) (N + 2) ∧ ((2 < kd ∧ kd < 7) → w = pS4 (G m).1 (G m).2.1 (Int32.ofNat st) ∧ q.1 7 = (G m).1 7 + (10 * Int32.ofNat st - pS4 (G m).1 (G m).2.1 (Int32.ofNat st))) ∧ ((19 < kd ∧ kd < 25) → pD (Int32.ofNat a) (G m).1 (G m).2.1 (G m).2.2 w q.1))
section PB11
variable {rf : rc_F} {z : rc_Z} {x m K F N kd a st k : Nat} {σ : rc_S} {G : Nat → pG} {L LL : List Nat}
theorem pl_pick (hz : z.2.1 ≤ 260) (hk : k < 100000) {n : Nat} (h1 : 1 ≤ n) (hn : n < 100000) : ∃ v, v < n ∧ f_L_pick rf z (Int32.ofNat k) (Int32.ofNat n) σ = some (Int32.ofNat v, σ) := by
  obtain ⟨w, e⟩ : ∃ w, f_L_cell rf z (Int32.ofNat k) σ = some (w, σ) := by
    rw [f_L_cell]
    by_cases h : Int32.ofNat z.2.1 ≤ Int32.ofNat k
    · rw [if_pos h]; exact ⟨_, rfl⟩
    · have hk2 : k < z.2.1 := Nat.not_le.mp (fun q => h ((pq_le (by omega) (by omega)).mpr q))
      rw [if_neg h, pq_in hk2 (by omega), pq_ck]; exact ⟨_, rfl⟩
  obtain ⟨c, hc, ec⟩ := pl_ush w
  refine ⟨c % n, Nat.mod_lt _ h1, ?_⟩
  rw [f_L_pick, e, pq_bd, pq_cd (show ¬ Int32.ofNat n = 0 from fun q => by have := (pq_eq (m := 0) (n := n) (by omega) (by decide)).mp q; omega), ec, pq_md h1 hc (by omega)]
theorem pl_op (hX : pq_X rf x) {A : rc_S → Option (Int32 × rc_S)} {Ψ : Prop} {Θ : (Nat → Int32) → Nat → Nat → Int32 → (Nat → Int32) → Prop} (hA : pk_Op x A Ψ Θ) (h : pKx σ x G m K F L) (hV : pVI G m N) (hN : N ≤ 880) (hs : (2 < kd ∧ kd < 7) → ¬ Ψ ∧ ∀ g n p v g', Θ g n p v g' → v = pS4 g n (Int32.ofNat st) ∧ g' 7 = g 7 + (10 * Int32.ofNat st - pS4 g n (Int32.ofNat st))) (hd : (19 < kd ∧ kd < 25) → ∀ g n p v g', Θ g n p v g' → pD (Int32.ofNat a) g n p v g') : pOut x G m K F L N kd a st (rc_tr (pM rf x A σ) [(1, (-76 : Int32))]) := by
  rcases pk_step hX hA h hV (by omega) with ⟨hp, σ', e, k1⟩ | ⟨v, σ', q, v0, e, k1, k2, k3⟩
  · refine Or.inl ⟨-76, σ', Or.inl rfl, fun q => (hs q).1 hp, ?_, k1⟩
    rw [e]; rfl
  · refine Or.inr ⟨v, σ', q, v0, ?_, k1, k2, fun q => (hs q).2 _ _ _ _ _ k3, fun q => hd q _ _ _ _ _ k3⟩
    rw [e]; rfl
theorem pl_rd (hX : pq_X rf x) (hV : pVI G m N) (hN : N ≤ 880) (hn1 : ¬ (2 < kd ∧ kd < 7)) (hn2 : ¬ (19 < kd ∧ kd < 25)) (hl : LL.length ≤ 60) (hc : ∀ (k v : Nat), LL[k]? = some v → v < 128) (h59 : ∀ (k : Nat), LL[k]? = some 59 → k = 1) : ∀ (d k : Nat) (σ : rc_S), k + d = LL.length → pKt σ x G m K F L k (fun k => Int32.ofNat (LL.getD k 0)) → pOut x G m K F L N kd a st (f_L_reads rf z x (LL.drop k) σ) := by
  have hT1 : ∀ k, k < LL.length → vp_nar .char (Int32.ofNat (LL.getD k 0)) = Int32.ofNat (LL.getD k 0) := fun k hk => by
    have e : LL[k]? = some LL[k] := List.getElem?_eq_getElem hk
    rw [List.getD_eq_getElem?_getD, e]
    exact (qs_v1 _ (hc k _ e)).2.2
  intro d
  induction d with
  | zero =>
    intro k σ hk h
    have hkl : k = LL.length := by omega
    subst hkl
    rw [List.drop_length, f_L_reads]
    rcases pe_commands (z := z) hX h hV hN hl hT1 (fun k hk e => by
      have e1 : LL[k]? = some LL[k] := List.getElem?_eq_getElem hk
      have e2 := hc k _ e1
      refine h59 k ?_
      simp only [List.getD_eq_getElem?_getD, e1, Option.getD_some] at e
      rw [e1, (pq_eq (m := 59) (by omega) (by decide)).mp e]) with ⟨v, σ', hv, e, k1⟩ | ⟨cc, σ', q, hcc, e, k1, k2⟩
    · exact Or.inl ⟨v, σ', hv.symm, hn1, e, k1⟩
    · exact Or.inr ⟨_, σ', q, pa_nnN (by omega), e, k1, k2, fun q => absurd q hn1, fun q => absurd q hn2⟩
  | succ d ih =>
    intro k σ hk h
    have hkl : k < LL.length := by omega
    have e : LL[k]? = some LL[k] := List.getElem?_eq_getElem hkl
    have eg : LL.getD k 0 = LL[k] := by rw [List.getD_eq_getElem?_getD, e]; rfl
    obtain ⟨σ1, e1, h1, -⟩ := pe_append (z := z) hX h hV (by omega) (hT1 k hkl)
    rw [eg] at e1
    rw [List.drop_eq_getElem_cons hkl, f_L_reads, e1, pq_bd]
    exact ih (k + 1) σ1 (by omega) h1
theorem pl_tx (hX : pq_X rf x) (h : pKx σ x G m K F L) (hV : pVI G m N) (hN : N ≤ 880) (hn1 : ¬ (2 < kd ∧ kd < 7)) (hn2 : ¬ (19 < kd ∧ kd < 25)) (hl : LL.length ≤ 60) (hc : ∀ (k v : Nat), LL[k]? = some v → v < 128) (h59 : ∀ (k : Nat), LL[k]? = some 59 → k = 1) : pOut x G m K F L N kd a st (f_L_reads rf z x LL σ) := by
  have e := pl_rd (z := z) (a := a) (st := st) hX hV hN hn1 hn2 hl hc h59 LL.length 0 σ (by omega) ⟨h.1, h.2.1, h.2.2.1, h.2.2.2, fun k hk => by omega⟩
  rw [List.drop_zero] at e
  exact e
theorem pl_sm {v : Nat} (h : v < 10) : rc_sm (Int32.ofNat v) = true := by
  have k : ∀ v, v < 10 → rc_sm (Int32.ofNat v) = true := by decide
  exact k v h
theorem pl_ne {c : Nat} (hkd : kd < 31) (hc : c < 31) (h : kd ≠ c) : ¬ Int32.ofNat kd = Int32.ofNat c := fun q => h ((pq_eq (by omega) (by omega)).mp q)
theorem pl_x0 {v : Nat} (hv : v < 10) : (∀ (k w : Nat), (tx0 v)[k]? = some w → w < 128) ∧ ∀ (k : Nat), (tx0 v)[k]? = some 59 → k = 1 := by
  refine ⟨fun k w hw => ?_, fun k hk => ?_⟩
  · have := List.mem_of_getElem? hw; simp [tx0] at this; omega
  · match k, hk with
    | 0, hk => simp [tx0] at hk
    | 1, _ => rfl
    | 2, hk => simp [tx0] at hk
    | 3, hk => simp [tx0] at hk; omega
    | 4, hk => simp [tx0] at hk
    | 5, hk => simp [tx0] at hk
    | k + 6, hk => simp [tx0] at hk
theorem pl_x1 {v : Nat} (hv : v < 10) : (∀ (k w : Nat), (tx1 v)[k]? = some w → w < 128) ∧ ∀ (k : Nat), (tx1 v)[k]? = some 59 → k = 1 := by
  refine ⟨fun k w hw => ?_, fun k hk => ?_⟩
  · have := List.mem_of_getElem? hw; simp [tx1] at this; omega
  · match k, hk with
    | 0, hk => simp [tx1] at hk
    | 1, _ => rfl
    | 2, hk => simp [tx1] at hk
    | 3, hk => simp [tx1] at hk; omega
    | k + 4, hk => simp [tx1] at hk
theorem pl_x2 {v w y : Nat} (hv : v < 10) (hw : w < 10) (hy : y < 10) : (∀ (k u : Nat), (tx2 v w y)[k]? = some u → u < 128) ∧ ∀ (k : Nat), (tx2 v w y)[k]? = some 59 → k = 1 := by
  refine ⟨fun k u hu => ?_, fun k hk => ?_⟩
  · have := List.mem_of_getElem? hu; simp [tx2] at this; omega
  · match k, hk with
    | 0, hk => simp [tx2] at hk
    | 1, _ => rfl
    | 2, hk => simp [tx2] at hk
    | 3, hk => simp [tx2] at hk; omega
    | 4, hk => simp [tx2] at hk
    | 5, hk => simp [tx2] at hk; omega
    | 6, hk => simp [tx2] at hk
    | 7, hk => simp [tx2] at hk; omega
    | k + 8, hk => simp [tx2] at hk
theorem pl_x3 : (∀ (k w : Nat), tx3[k]? = some w → w < 128) ∧ ∀ (k : Nat), tx3[k]? = some 59 → k = 1 := by
  refine ⟨fun k w hw => ?_, fun k hk => ?_⟩
  · have := List.mem_of_getElem? hw; simp [tx3] at this; omega
  · match k, hk with
    | 0, hk => simp [tx3] at hk
    | 1, _ => rfl
    | k + 2, hk => simp [tx3] at hk

theorem pm_barrel (hX : pq_X rf x) {u : Int32} : f_L_barrel rf z x u σ = rc_tr (pM rf x (f_X7_placeBarrel rf (x + 1) u) σ) [(1, (-76 : Int32))] := by
  rw [f_L_barrel, f_X8_barrel, pq_x5 hX, pq_x1 hX, pq_x0 hX]
  rfl
theorem pm_storm (hX : pq_X rf x) {u v : Int32} : f_L_storm rf z x u v σ = rc_tr (pM rf x (f_X7_letStormBy rf (x + 1) u v) σ) [(1, (-76 : Int32))] := by
  rw [f_L_storm, f_X8_storm, pq_x5 hX, pq_x1 hX, pq_x0 hX]
  rfl
theorem pm_sommelier (hX : pq_X rf x) {u v : Int32} : f_L_sommelier rf z x u v σ = rc_tr (pM rf x (f_X7_letCome rf (x + 1) u v) σ) [(1, (-76 : Int32))] := by
  rw [f_L_sommelier, f_X8_sommelier, pq_x5 hX, pq_x1 hX, pq_x0 hX]
  rfl
theorem pm_leave (hX : pq_X rf x) {u : Int32} : f_L_leave rf z x u σ = rc_tr (pM rf x (f_X7_letLeave rf (x + 1) u) σ) [(1, (-76 : Int32))] := by
  rw [f_L_leave, f_X8_leave, pq_x5 hX, pq_x1 hX, pq_x0 hX]
  rfl
theorem pm_clear (hX : pq_X rf x) {u : Int32} : f_L_clear rf z x u σ = rc_tr (pM rf x (f_X7_clearRoof rf (x + 1) u) σ) [(1, (-76 : Int32))] := by
  rw [f_L_clear, f_X8_clear, pq_x5 hX, pq_x1 hX, pq_x0 hX]
  rfl
theorem pm_takeAway (hX : pq_X rf x) {u : Int32} : f_L_takeAway rf z x u σ = rc_tr (pM rf x (f_X7_removeBarrel rf (x + 1) u) σ) [(1, (-76 : Int32))] := by
  rw [f_L_takeAway, f_X8_takeAway, pq_x5 hX, pq_x1 hX, pq_x0 hX]
  rfl
theorem pm_hail (hX : pq_X rf x) {u v : Int32} : f_L_hail rf z x u v σ = rc_tr (pM rf x (f_X7_adulterate rf (x + 1) u v) σ) [(1, (-76 : Int32))] := by
  rw [f_L_hail, f_X8_hail, pq_x5 hX, pq_x1 hX, pq_x0 hX]
  rfl
theorem pm_drink (hX : pq_X rf x) {u : Int32} : f_L_drink rf z x u σ = rc_tr (pM rf x (f_X7_letPanelDrink rf (x + 1) u) σ) [(1, (-76 : Int32))] := by
  rw [f_L_drink, f_X8_drink, pq_x5 hX, pq_x1 hX, pq_x0 hX]
  rfl
theorem pm_pour (hX : pq_X rf x) {u v w : Int32} : f_L_pour rf z x u v w σ = rc_tr (pM rf x (f_X7_pourOver rf (x + 1) u v w) σ) [(1, (-76 : Int32))] := by
  rw [f_L_pour, f_X8_pour, pq_x5 hX, pq_x1 hX, pq_x0 hX]
  rfl
theorem pl_year (hX : pq_X rf x) (h : pKx σ x G m K F L) (hV : pVI G m N) (hN : N ≤ 880) (hn1 : ¬ (2 < kd ∧ kd < 7)) (hn2 : ¬ (19 < kd ∧ kd < 25)) : pOut x G m K F L N kd a st (f_X8_year rf x σ) := by
  obtain ⟨v, σ', q, v0, e, k1, k2⟩ := pk_yearS hX h hV (by omega)
  exact Or.inr ⟨v, σ', q, v0, e, k1, k2, fun q => absurd q hn1, fun q => absurd q hn2⟩
theorem pl_g (hX : pq_X rf x) {A : rc_S → Option (Int32 × rc_S)} {Ψ : Prop} {Θ : (Nat → Int32) → Nat → Nat → Int32 → (Nat → Int32) → Prop} (hA : pk_Op x A Ψ Θ) (h : pKx σ x G m K F L) (hV : pVI G m N) (hN : N ≤ 880) (hn1 : ¬ (2 < kd ∧ kd < 7)) (hn2 : ¬ (19 < kd ∧ kd < 25)) : pOut x G m K F L N kd a st (rc_tr (pM rf x A σ) [(1, (-76 : Int32))]) := pl_op hX hA h hV hN (fun q => absurd q hn1) (fun q => absurd q hn2)
theorem pl_som (hX : pq_X rf x) (h : pKx σ x G m K F L) (hV : pVI G m N) (hN : N ≤ 880) (hn1 : ¬ (2 < kd ∧ kd < 7)) (hn2 : ¬ (19 < kd ∧ kd < 25)) (u : Int32) (P : Prop) [Decidable P] : pOut x G m K F L N kd a st (rc_jn (fun (w_199_24 : Int32) (σ_25 : rc_S) => rc_bd (f_L_sommelier rf z x u w_199_24 σ_25) fun w_26 σ_26 => some (w_26, σ_26)) fun J_199 => if P then J_199 (1 : Int32) σ else J_199 (0 : Int32) σ) := by
  show pOut x G m K F L N kd a st (if P then rc_bd (f_L_sommelier rf z x u 1 σ) (fun w s => some (w, s)) else rc_bd (f_L_sommelier rf z x u 0 σ) (fun w s => some (w, s)))
  by_cases hP : P
  · rw [if_pos hP, pc_so, pm_sommelier hX]; exact pl_g hX (pk_join hX (Or.inr rfl)) h hV hN hn1 hn2
  · rw [if_neg hP, pc_so, pm_sommelier hX]; exact pl_g hX (pk_join hX (Or.inl rfl)) h hV hN hn1 hn2
theorem pl_does (hX : pq_X rf x) (hz : z.2.1 ≤ 260) (h : pKx σ x G m K F L) (hV : pVI G m N) (hN : N ≤ 880) (hk : k < 90000) (hkd : kd < 31) (ha : a < 10) (st1 : 1 ≤ st) (st9 : st ≤ 9) : pOut x G m K F L N kd a st (f_L_does rf z (Int32.ofNat k) (Int32.ofNat kd) x (Int32.ofNat a) (Int32.ofNat st) σ) := by
  have hVm := (hV m (Nat.le_refl m)).1
  have h8 := pq_vn hVm
  obtain ⟨v, hv, ev⟩ := pl_pick (rf := rf) (σ := σ) hz (k := k + 1) (by omega) (n := 1000) (by omega) (by omega)
  rw [show Int32.ofNat 1000 = (1000 : Int32) from rfl] at ev
  have md : ∀ c, 0 < c → c < 2147483648 → Int32.ofNat v - Int32.ofNat v / Int32.ofNat c * Int32.ofNat c = Int32.ofNat (v % c) := fun c h0 hc => pq_md h0 (by omega) hc
  have md4 : Int32.ofNat v - Int32.ofNat v / (4 : Int32) * (4 : Int32) = Int32.ofNat (v % 4) := md 4 (by omega) (by omega)
  have md7 : Int32.ofNat v - Int32.ofNat v / (7 : Int32) * (7 : Int32) = Int32.ofNat (v % 7) := md 7 (by omega) (by omega)
  have hb10 : v % ((G m).2.1 + 1) < 10 := by have := Nat.mod_lt v (show 0 < (G m).2.1 + 1 by omega); omega
  rw [f_L_does, pq_s, ev, pq_bd, ql_acc0 hX h.1 hVm, pq_bd, pq_v0 hVm, pq_s, pq_cd (show ¬ Int32.ofNat ((G m).2.1 + 1) = 0 from fun q => by have := (pq_eq (m := 0) (n := (G m).2.1 + 1) (by omega) (by decide)).mp q; omega), rc_lt, md _ (by omega) (by omega)]
  by_cases h0 : kd = 0
  · subst h0; rw [if_pos (show Int32.ofNat 0 = (0 : Int32) from rfl), pc_so, pm_barrel hX]; exact pl_g hX (pk_place hX) h hV hN (by omega) (by omega)
  rw [if_neg (show ¬ Int32.ofNat kd = (0 : Int32) from pl_ne (c := 0) hkd (by omega) h0)]
  by_cases h1 : kd = 1
  · subst h1; rw [if_pos (show Int32.ofNat 1 = (1 : Int32) from rfl), pc_so, pm_barrel hX]; exact pl_g hX (pk_place hX) h hV hN (by omega) (by omega)
  rw [if_neg (show ¬ Int32.ofNat kd = (1 : Int32) from pl_ne (c := 1) hkd (by omega) h1)]
  by_cases h2 : kd = 2
  · subst h2; rw [if_pos (show Int32.ofNat 2 = (2 : Int32) from rfl), pc_so, pm_barrel hX]; exact pl_g hX (pk_place hX) h hV hN (by omega) (by omega)
  rw [if_neg (show ¬ Int32.ofNat kd = (2 : Int32) from pl_ne (c := 2) hkd (by omega) h2)]
  by_cases h3 : kd = 3
  · subst h3; rw [if_pos (show Int32.ofNat 3 = (3 : Int32) from rfl), pc_so, pm_storm hX, md4]; exact pl_op hX (pk_storm hX) h hV hN (fun _ => ⟨fun q => q ⟨pb_9 st1 st9, pb_4 (Nat.mod_lt _ (by decide))⟩, fun g n p v g' q => q⟩) (fun q => absurd q (by omega))
  rw [if_neg (show ¬ Int32.ofNat kd = (3 : Int32) from pl_ne (c := 3) hkd (by omega) h3)]
  by_cases h4 : kd = 4
  · subst h4; rw [if_pos (show Int32.ofNat 4 = (4 : Int32) from rfl), pc_so, pm_storm hX, md4]; exact pl_op hX (pk_storm hX) h hV hN (fun _ => ⟨fun q => q ⟨pb_9 st1 st9, pb_4 (Nat.mod_lt _ (by decide))⟩, fun g n p v g' q => q⟩) (fun q => absurd q (by omega))
  rw [if_neg (show ¬ Int32.ofNat kd = (4 : Int32) from pl_ne (c := 4) hkd (by omega) h4)]
  by_cases h5 : kd = 5
  · subst h5; rw [if_pos (show Int32.ofNat 5 = (5 : Int32) from rfl), pc_so, pm_storm hX, md4]; exact pl_op hX (pk_storm hX) h hV hN (fun _ => ⟨fun q => q ⟨pb_9 st1 st9, pb_4 (Nat.mod_lt _ (by decide))⟩, fun g n p v g' q => q⟩) (fun q => absurd q (by omega))
  rw [if_neg (show ¬ Int32.ofNat kd = (5 : Int32) from pl_ne (c := 5) hkd (by omega) h5)]
  by_cases h6 : kd = 6
  · subst h6; rw [if_pos (show Int32.ofNat 6 = (6 : Int32) from rfl), pc_so, pm_storm hX, md4]; exact pl_op hX (pk_storm hX) h hV hN (fun _ => ⟨fun q => q ⟨pb_9 st1 st9, pb_4 (Nat.mod_lt _ (by decide))⟩, fun g n p v g' q => q⟩) (fun q => absurd q (by omega))
  rw [if_neg (show ¬ Int32.ofNat kd = (6 : Int32) from pl_ne (c := 6) hkd (by omega) h6)]
  by_cases h7 : kd = 7
  · subst h7; rw [if_pos (show Int32.ofNat 7 = (7 : Int32) from rfl), pc_so]; exact pl_year hX h hV hN (by omega) (by omega)
  rw [if_neg (show ¬ Int32.ofNat kd = (7 : Int32) from pl_ne (c := 7) hkd (by omega) h7)]
  by_cases h8 : kd = 8
  · subst h8; rw [if_pos (show Int32.ofNat 8 = (8 : Int32) from rfl), pc_so]; exact pl_year hX h hV hN (by omega) (by omega)
  rw [if_neg (show ¬ Int32.ofNat kd = (8 : Int32) from pl_ne (c := 8) hkd (by omega) h8)]
  by_cases h9 : kd = 9
  · subst h9; rw [if_pos (show Int32.ofNat 9 = (9 : Int32) from rfl)]; exact pl_som hX h hV hN (by omega) (by omega) _ _
  rw [if_neg (show ¬ Int32.ofNat kd = (9 : Int32) from pl_ne (c := 9) hkd (by omega) h9)]
  by_cases h10 : kd = 10
  · subst h10; rw [if_pos (show Int32.ofNat 10 = (10 : Int32) from rfl)]; exact pl_som hX h hV hN (by omega) (by omega) _ _
  rw [if_neg (show ¬ Int32.ofNat kd = (10 : Int32) from pl_ne (c := 10) hkd (by omega) h10)]
  by_cases h11 : kd = 11
  · subst h11; rw [if_pos (show Int32.ofNat 11 = (11 : Int32) from rfl), pc_so, pm_leave hX]; exact pl_g hX (pk_leave hX) h hV hN (by omega) (by omega)
  rw [if_neg (show ¬ Int32.ofNat kd = (11 : Int32) from pl_ne (c := 11) hkd (by omega) h11)]
  by_cases h12 : kd = 12
  · subst h12; rw [if_pos (show Int32.ofNat 12 = (12 : Int32) from rfl), pc_so, pm_clear hX]; exact pl_g hX (pk_clear hX) h hV hN (by omega) (by omega)
  rw [if_neg (show ¬ Int32.ofNat kd = (12 : Int32) from pl_ne (c := 12) hkd (by omega) h12)]
  by_cases h13 : kd = 13
  · subst h13; rw [if_pos (show Int32.ofNat 13 = (13 : Int32) from rfl), pc_so, pm_takeAway hX]; exact pl_g hX (pk_take hX) h hV hN (by omega) (by omega)
  rw [if_neg (show ¬ Int32.ofNat kd = (13 : Int32) from pl_ne (c := 13) hkd (by omega) h13)]
  by_cases h14 : kd = 14
  · subst h14; rw [if_pos (show Int32.ofNat 14 = (14 : Int32) from rfl), pc_so, pm_hail hX]; exact pl_g hX (pk_hail hX) h hV hN (by omega) (by omega)
  rw [if_neg (show ¬ Int32.ofNat kd = (14 : Int32) from pl_ne (c := 14) hkd (by omega) h14)]
  by_cases h15 : kd = 15
  · subst h15; rw [if_pos (show Int32.ofNat 15 = (15 : Int32) from rfl), pc_so, pm_hail hX]; exact pl_g hX (pk_hail hX) h hV hN (by omega) (by omega)
  rw [if_neg (show ¬ Int32.ofNat kd = (15 : Int32) from pl_ne (c := 15) hkd (by omega) h15)]
  by_cases h16 : kd = 16
  · subst h16; rw [if_pos (show Int32.ofNat 16 = (16 : Int32) from rfl), pc_so, pm_hail hX]; exact pl_g hX (pk_hail hX) h hV hN (by omega) (by omega)
  rw [if_neg (show ¬ Int32.ofNat kd = (16 : Int32) from pl_ne (c := 16) hkd (by omega) h16)]
  by_cases h17 : kd = 17
  · subst h17; rw [if_pos (show Int32.ofNat 17 = (17 : Int32) from rfl), pc_so, pm_hail hX]; exact pl_g hX (pk_hail hX) h hV hN (by omega) (by omega)
  rw [if_neg (show ¬ Int32.ofNat kd = (17 : Int32) from pl_ne (c := 17) hkd (by omega) h17)]
  by_cases h18 : kd = 18
  · subst h18; rw [if_pos (show Int32.ofNat 18 = (18 : Int32) from rfl), pc_so, pm_hail hX]; exact pl_g hX (pk_hail hX) h hV hN (by omega) (by omega)
  rw [if_neg (show ¬ Int32.ofNat kd = (18 : Int32) from pl_ne (c := 18) hkd (by omega) h18)]
  by_cases h19 : kd = 19
  · subst h19; rw [if_pos (show Int32.ofNat 19 = (19 : Int32) from rfl), pc_so, pm_hail hX]; exact pl_g hX (pk_hail hX) h hV hN (by omega) (by omega)
  rw [if_neg (show ¬ Int32.ofNat kd = (19 : Int32) from pl_ne (c := 19) hkd (by omega) h19)]
  by_cases h20 : kd = 20
  · subst h20; rw [if_pos (show Int32.ofNat 20 = (20 : Int32) from rfl), pc_so, pm_drink hX]; exact pl_op hX (pk_drink hX) h hV hN (fun q => absurd q (by omega)) (fun _ g n p v g' q => q)
  rw [if_neg (show ¬ Int32.ofNat kd = (20 : Int32) from pl_ne (c := 20) hkd (by omega) h20)]
  by_cases h21 : kd = 21
  · subst h21; rw [if_pos (show Int32.ofNat 21 = (21 : Int32) from rfl), pc_so, pm_drink hX]; exact pl_op hX (pk_drink hX) h hV hN (fun q => absurd q (by omega)) (fun _ g n p v g' q => q)
  rw [if_neg (show ¬ Int32.ofNat kd = (21 : Int32) from pl_ne (c := 21) hkd (by omega) h21)]
  by_cases h22 : kd = 22
  · subst h22; rw [if_pos (show Int32.ofNat 22 = (22 : Int32) from rfl), pc_so, pm_drink hX]; exact pl_op hX (pk_drink hX) h hV hN (fun q => absurd q (by omega)) (fun _ g n p v g' q => q)
  rw [if_neg (show ¬ Int32.ofNat kd = (22 : Int32) from pl_ne (c := 22) hkd (by omega) h22)]
  by_cases h23 : kd = 23
  · subst h23; rw [if_pos (show Int32.ofNat 23 = (23 : Int32) from rfl), pc_so, pm_drink hX]; exact pl_op hX (pk_drink hX) h hV hN (fun q => absurd q (by omega)) (fun _ g n p v g' q => q)
  rw [if_neg (show ¬ Int32.ofNat kd = (23 : Int32) from pl_ne (c := 23) hkd (by omega) h23)]
  by_cases h24 : kd = 24
  · subst h24; rw [if_pos (show Int32.ofNat 24 = (24 : Int32) from rfl), pc_so, pm_drink hX]; exact pl_op hX (pk_drink hX) h hV hN (fun q => absurd q (by omega)) (fun _ g n p v g' q => q)
  rw [if_neg (show ¬ Int32.ofNat kd = (24 : Int32) from pl_ne (c := 24) hkd (by omega) h24)]
  by_cases h25 : kd = 25
  · subst h25; rw [if_pos (show Int32.ofNat 25 = (25 : Int32) from rfl), pc_so, pm_pour hX]; exact pl_g hX (pk_pour hX) h hV hN (by omega) (by omega)
  rw [if_neg (show ¬ Int32.ofNat kd = (25 : Int32) from pl_ne (c := 25) hkd (by omega) h25)]
  by_cases h26 : kd = 26
  · subst h26; rw [if_pos (show Int32.ofNat 26 = (26 : Int32) from rfl), pc_so, pm_pour hX]; exact pl_g hX (pk_pour hX) h hV hN (by omega) (by omega)
  rw [if_neg (show ¬ Int32.ofNat kd = (26 : Int32) from pl_ne (c := 26) hkd (by omega) h26)]
  by_cases h27 : kd = 27
  · subst h27; rw [if_pos (show Int32.ofNat 27 = (27 : Int32) from rfl), pc_so, pm_pour hX]; exact pl_g hX (pk_pour hX) h hV hN (by omega) (by omega)
  rw [if_neg (show ¬ Int32.ofNat kd = (27 : Int32) from pl_ne (c := 27) hkd (by omega) h27)]
  by_cases h28 : kd = 28
  · subst h28; rw [if_pos (show Int32.ofNat 28 = (28 : Int32) from rfl), pc_so, pm_pour hX]; exact pl_g hX (pk_pour hX) h hV hN (by omega) (by omega)
  rw [if_neg (show ¬ Int32.ofNat kd = (28 : Int32) from pl_ne (c := 28) hkd (by omega) h28)]
  rw [md4, md7]
  by_cases q0 : Int32.ofNat (v % 4) = 0
  · rw [if_pos q0, pl_sm (show st < 10 by omega), pq_ck, pq_cl (by omega)]
    exact pl_tx hX h hV hN (by omega) (by omega) (by simp [tx0]) (pl_x0 (by omega)).1 (pl_x0 (by omega)).2
  rw [if_neg q0]
  by_cases q1 : Int32.ofNat (v % 4) = 1
  · rw [if_pos q1, pl_sm ha, pq_ck, pq_cl (by omega)]
    exact pl_tx hX h hV hN (by omega) (by omega) (by simp [tx1]) (pl_x1 ha).1 (pl_x1 ha).2
  rw [if_neg q1]
  by_cases q2 : Int32.ofNat (v % 4) = 2
  · have h7 : v % 7 < 7 := Nat.mod_lt _ (by decide)
    have e7 : (1 : Int32) + Int32.ofNat (v % 7) = Int32.ofNat (v % 7 + 1) := by rw [Int32.add_comm, pq_s]
    rw [if_pos q2, pl_sm ha, pq_ck, pl_sm hb10, pq_ck, e7, pl_sm (show v % 7 + 1 < 10 by omega), pq_ck, pq_cl (by omega), pq_cl (by omega), pq_cl (by omega)]
    exact pl_tx hX h hV hN (by omega) (by omega) (by simp [tx2]) (pl_x2 ha hb10 (by omega)).1 (pl_x2 ha hb10 (by omega)).2
  rw [if_neg q2]
  exact pl_tx hX h hV hN (by omega) (by omega) (by simp [tx3]) pl_x3.1 pl_x3.2
end PB11
