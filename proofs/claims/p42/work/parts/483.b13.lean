/-! THE LAW'S LOOP, AND THE LAW: true -/
section PB13
variable {rf : rc_F} {z : rc_Z} {x : Nat}
/-- what holds between the rounds -/
def pRd (x i : Nat) (σ : rc_S) (φ : Nat → Int64) (m : Nat) : Prop := ∃ (G : Nat → pG) (K F N : Nat) (L : List Nat), pKx σ x G m K F L ∧ (K = m ∨ (K = 8 ∧ 8 ≤ m)) ∧ pVI G m N ∧ N ≤ 2 * i ∧ m ≤ i ∧ ∀ j, j ≤ m → φ j = pb_sm (G j).1 (G j).2.1 (G j).2.2
theorem pl_28 (hX : pq_X rf x) (hz : z.2.1 ≤ 260) : ∀ (d fu i m : Nat) (σ : rc_S) (φ : Nat → Int64), i + d = 48 → pRd x i σ φ m → ∃ σ' φ' m', pRd x 48 σ' φ' m' ∧ ∀ (J : Int32 → Int32 → Int32 → rc_S → (Nat → Int64) → Option (Int32 × rc_S)), f_L_law_28 rf z x J (fu + d + 1) (Int32.ofNat m) (Int32.ofNat (6 * i)) (Int32.ofNat i) σ φ = J (Int32.ofNat m') (Int32.ofNat 288) (Int32.ofNat 48) σ' φ' := by
  intro d
  induction d with
  | zero =>
    intro fu i m σ φ hid h
    have hi : i = 48 := by omega
    subst hi
    exact ⟨σ, φ, m, h, fun J => by rw [f_L_law_28, if_pos (show (48 : Int32) ≤ Int32.ofNat 48 from Int32.le_refl _)]⟩
  | succ d ih =>
    intro fu i m σ φ hid ⟨G, K, F, N, L, hk, hK, hV, hN, hmi, hφ⟩
    have hi : i < 48 := by omega
    have hVm := hV m (Nat.le_refl m)
    have h8 := pq_vn hVm.1
    have hkk := hk.2.1.2.1
    obtain ⟨σ1, L1, e1, k1, f1⟩ := pk_sum (z := z) hX hk hV
    have R1 := k1.1
    obtain ⟨kd, hkd, h77⟩ := pl_kind (rf := rf) (σ := σ1) hz hi
    obtain ⟨ee, hee, hee0, h113⟩ := pl_more (i := i) (σ := σ1) h8
    obtain ⟨a, ha, ea⟩ := pl_pick (rf := rf) (σ := σ1) hz (k := 6 * i + 2) (by omega) (n := (G m).2.1 + ee) (by omega) (by omega)
    obtain ⟨s0, hs0, es0⟩ := pl_pick (rf := rf) (σ := σ1) hz (k := 6 * i + 3) (by omega) (n := 9) (by omega) (by omega)
    rw [show Int32.ofNat 9 = (9 : Int32) from rfl] at es0
    have hst : (1 : Int32) + Int32.ofNat s0 = Int32.ofNat (s0 + 1) := by rw [Int32.add_comm, pq_s]
    obtain ⟨w16, e16, p16⟩ := pl_note (z := z) (N := N) (a := a) hX R1 hVm.1 (by omega)
    obtain ⟨w17, e17, p17⟩ := pl_nos (z := z) (N := N) (a := a) hX R1 hVm.1 (by omega)
    have e62 : Int32.ofNat (6 * i) + (2 : Int32) = Int32.ofNat (6 * i + 2) := (Int32.ofNat_add _ _).symm
    have e63 : Int32.ofNat (6 * i) + (3 : Int32) = Int32.ofNat (6 * i + 3) := (Int32.ofNat_add _ _).symm
    have e66 : Int32.ofNat (6 * i) + 6 = Int32.ofNat (6 * (i + 1)) := by rw [show 6 * (i + 1) = 6 * i + 6 by omega]; exact (Int32.ofNat_add _ _).symm
    have eca := ql_catch (z := z) hX R1 hVm.1 (j := s0 + 1) (by omega) (by omega)
    have elo := ql_lose (z := z) hX R1 hVm.1 (j := s0 + 1) (by omega) (by omega)
    -- up to what is done
    have pre : ∀ (J : Int32 → Int32 → Int32 → rc_S → (Nat → Int64) → Option (Int32 × rc_S)) (w : Int32) (σ2 : rc_S), f_L_does rf z (Int32.ofNat (6 * i)) (Int32.ofNat kd) x (Int32.ofNat a) (Int32.ofNat (s0 + 1)) σ1 = some (w, σ2) → ∀ (o : Option (Int32 × rc_S)), (rc_jn (fun (w_221_21 : Int32) (σ_22 : rc_S) => rc_jn (fun (w_249_23 : Int32) (σ_24 : rc_S) => rc_jn (fun (w_295_25 : Int32) (σ_26 : rc_S) => rc_jn (fun (w_350_27 : Int32) (σ_28 : rc_S) => rc_lt (w_295_25 &&& w_350_27) fun v23_29 => rc_lt (Int32.ofNat (6 * i) + 6) fun v4_30 => if v23_29 = 0 then some ((0 : Int32), σ_28) else rc_bd (f_L_pick rf z v4_30 (21 : Int32) σ_28) fun w_31 σ_31 => rc_bd (f_L_isWhole rf z x w_31 σ_31) fun w_32 σ_32 => if w_32 = 0 then some ((0 : Int32), σ_32) else rc_jn (fun (v3_33 : Int32) (σ_34 : rc_S) (φ_34 : Nat → Int64) => rc_lt (Int32.ofNat i + 1) fun v5_35 => f_L_law_28 rf z x J (fu + d + 1) v3_33 v4_30 v5_35 σ_34 φ_34) fun J_427 => if (-74 : Int32) < w then rc_lt (Int32.ofNat m + 1) fun v3_36 => rc_bd (f_L_sum rf z x σ_32) fun w_37 σ_37 => rc_ck (rc_in v3_36 60) <| rc_lt (vp_updL φ v3_36.toNatClampNeg w_37) fun φ_38 => J_427 v3_36 σ_37 φ_38 else rc_bd (f_L_sum rf z x σ_32) fun w_39 σ_39 => if (lg_cmp w_39 (pb_sm (G m).1 (G m).2.1 (G m).2.2)) = 0 then rc_bd (f_L_account rf z x (10 : Int32) σ_39) fun w_40 σ_40 => if w_40 = Int32.ofNat K then rc_bd (f_L_account rf z x (11 : Int32) σ_40) fun w_41 σ_41 => if w_41 = 0 then J_427 (Int32.ofNat m) σ_41 φ else some ((0 : Int32), σ_41) else some ((0 : Int32), σ_40) else some ((0 : Int32), σ_39)) fun J_350 => if w_249_23 = 0 then J_350 (1 : Int32) σ_26 else rc_jn (fun (w_320_48 : Int32) (σ_49 : rc_S) => if w = w_320_48 then rc_bd (f_L_account rf z x (9 : Int32) σ_49) fun w_50 σ_50 => rc_jn (fun (w_341_51 : Int32) (σ_52 : rc_S) => if w_50 = ((G m).1 10 + w_341_51) then J_350 (1 : Int32) σ_52 else J_350 (0 : Int32) σ_52) fun J_341 => if w17 = 0 then J_341 (0 : Int32) σ_50 else J_341 (1 : Int32) σ_50 else J_350 (0 : Int32) σ_49) fun J_320 => if w17 = 0 then J_320 (w16 * (G m).1 1) σ_26 else J_320 (0 : Int32) σ_26) fun J_295 => if w_221_21 = 0 then J_295 (1 : Int32) σ_24 else if w = pS4 (G m).1 (G m).2.1 (Int32.ofNat (s0 + 1)) then rc_bd (f_L_account rf z x (6 : Int32) σ_24) fun w_58 σ_58 => if w_58 = ((G m).1 7 + (10 * Int32.ofNat (s0 + 1) - pS4 (G m).1 (G m).2.1 (Int32.ofNat (s0 + 1)))) then if (pS4 (G m).1 (G m).2.1 (Int32.ofNat (s0 + 1)) + (10 * Int32.ofNat (s0 + 1) - pS4 (G m).1 (G m).2.1 (Int32.ofNat (s0 + 1)))) = ((10 : Int32) * Int32.ofNat (s0 + 1)) then J_295 (1 : Int32) σ_58 else J_295 (0 : Int32) σ_58 else J_295 (0 : Int32) σ_58 else J_295 (0 : Int32) σ_24) fun J_249 => if Int32.ofNat kd ≤ (19 : Int32) then J_249 (0 : Int32) σ_22 else if (25 : Int32) ≤ Int32.ofNat kd then J_249 (0 : Int32) σ_22 else if w ≤ (-70 : Int32) then J_249 (0 : Int32) σ_22 else J_249 (1 : Int32) σ_22) fun J_221 => if Int32.ofNat kd ≤ (2 : Int32) then J_221 (0 : Int32) σ2 else if (7 : Int32) ≤ Int32.ofNat kd then J_221 (0 : Int32) σ2 else J_221 (1 : Int32) σ2) = o → f_L_law_28 rf z x J (fu + (d + 1) + 1) (Int32.ofNat m) (Int32.ofNat (6 * i)) (Int32.ofNat i) σ φ = o := by
      intro J w σ2 hw o ho
      rw [show fu + (d + 1) + 1 = (fu + d + 1) + 1 from rfl, f_L_law_28, if_neg (show ¬ (48 : Int32) ≤ Int32.ofNat i from pb_nle (n := 48) hi (by decide)), e1, pq_bd, ql_acc10 hX R1 hVm.1, pq_bd, k1.2.1.2.2.2.1]
      refine (pb_jg (Int32.ofNat kd) σ1 h77).trans ?_
      show rc_bd (f_L_account rf z x 0 σ1) _ = _
      rw [ql_acc0 hX R1 hVm.1, pq_bd, pq_v0 hVm.1]
      refine (pb_jg (Int32.ofNat ee) σ1 h113).trans ?_
      show rc_bd (f_L_pick rf z (Int32.ofNat (6 * i) + (2 : Int32)) (Int32.ofNat (G m).2.1 + Int32.ofNat ee) σ1) _ = _
      rw [e62, ← Int32.ofNat_add, ea, pq_bd, e63, es0, pq_bd, rc_lt, hst, eca, pq_bd, elo, pq_bd, ql_acc6 hX R1 hVm.1, pq_bd, e16, pq_bd, e17, pq_bd, ql_acc9 hX R1 hVm.1, pq_bd, ql_acc3 hX R1 hVm.1, pq_bd, hw, pq_bd]
      exact ho
    obtain ⟨y, hy, ey⟩ : ∃ y, y < 21 ∧ ∀ σ2, f_L_pick rf z (Int32.ofNat (6 * (i + 1))) (21 : Int32) σ2 = some (Int32.ofNat y, σ2) := by
      obtain ⟨y, hy, e⟩ := pl_pick (rf := rf) (σ := σ1) hz (k := 6 * (i + 1)) (by omega) (n := 21) (by omega) (by omega)
      rw [show Int32.ofNat 21 = (21 : Int32) from rfl] at e
      refine ⟨y, hy, fun σ2 => ?_⟩
      rw [f_L_pick, f_L_cell] at e ⊢
      by_cases q : Int32.ofNat z.2.1 ≤ Int32.ofNat (6 * (i + 1))
      · rw [if_pos q] at e ⊢
        rw [pq_bd] at e ⊢
        rw [pq_cd (by decide)] at e ⊢
        have e := congrArg Prod.fst (Option.some.inj e)
        exact congrArg (fun v => some (v, σ2)) e
      · have hk2 : 6 * (i + 1) < z.2.1 := Nat.not_le.mp (fun r => q ((pq_le (by omega) (by omega)).mpr r))
        rw [if_neg q, pq_in hk2 (by omega), pq_ck] at e ⊢
        rw [pq_bd] at e ⊢
        rw [pq_cd (by decide)] at e ⊢
        have e := congrArg Prod.fst (Option.some.inj e)
        exact congrArg (fun v => some (v, σ2)) e
    rcases pl_does hX hz k1 hV (show N ≤ 880 by omega) (k := 6 * i) (kd := kd) (a := a) (st := s0 + 1) (by omega) hkd (by omega) (by omega) (by omega) with ⟨w, σ2, hw, hns, ew, k2⟩ | ⟨w, σ2, q, w0, ew, k2, hV2, hstm, hdr⟩
    · -- refused
      obtain ⟨σ3, L3, e3, f3, o3⟩ := pb_whole (z := z) hX k2.1 hVm.1 (by omega) hVm.2 k2.2.2.1 (y := y) (by omega)
      have k3 := pK_pF k2 hV f3 o3
      obtain ⟨σ4, L4, e4, k4, f4⟩ := pk_sum (z := z) hX k3 hV
      obtain ⟨σ', φ', m', r1, r2⟩ := ih fu (i + 1) m σ4 φ (by omega) ⟨G, K, F, N, L4, k4, hK, hV, by omega, by omega, hφ⟩
      refine ⟨σ', φ', m', r1, fun J => pre J w σ2 ew _ ?_⟩
      have hw70 : w ≤ (-70 : Int32) ∧ ¬ (-74 : Int32) < w := by rcases hw with e | e <;> subst e <;> decide
      refine (pb_jg _ σ2 (fun J => pl_221 hkd J)).trans ?_
      rw [if_neg hns]
      refine (pb_jg _ σ2 (fun J => pl_249 hkd w J)).trans ?_
      rw [if_neg (fun q => q.2 hw70.1)]
      refine (pb_jg (1 : Int32) σ2 (fun J => by rw [if_pos rfl])).trans ?_
      refine (pb_jg (1 : Int32) σ2 (fun J => by rw [if_pos rfl])).trans ?_
      show rc_lt ((1 : Int32) &&& 1) _ = _
      rw [rc_lt, rc_lt, e66, if_neg (by decide), ey, pq_bd, e3, pq_bd, if_neg (by decide)]
      refine (pl_j3 (Int32.ofNat m) σ4 φ (fun J => ?_)).trans ?_
      · rw [if_neg hw70.2, e4, pq_bd, lg_0, if_pos rfl, ql_acc10 hX k4.1 hVm.1, pq_bd, k4.2.1.2.2.2.1, if_pos rfl, ql_acc11 hX k4.1 hVm.1, pq_bd, if_pos k4.2.2.2]
      · show rc_lt (Int32.ofNat i + 1) _ = _
        rw [rc_lt, pq_s]
        exact r2 J
    · -- done
      have hVq := hV2 (m + 1) (Nat.le_refl _)
      obtain ⟨σ3, L3, e3, f3, o3⟩ := pb_whole (z := z) hX k2.1 hVq.1 (by omega) hVq.2 k2.2.2.1 (y := y) (by omega)
      have k3 := pK_pF k2 hV2 f3 o3
      obtain ⟨σ4, L4, e4, k4, f4⟩ := pk_sum (z := z) hX k3 hV2
      have hR2 := k2.1
      rw [pG1_e] at hVq hR2 e4
      have hφ2 : ∀ j, j ≤ m + 1 → vp_updL φ (m + 1) (pb_sm q.1 q.2.1 q.2.2) j = pb_sm (pG1 G m q j).1 (pG1 G m q j).2.1 (pG1 G m q j).2.2 := fun j hj => by
        rw [pl_upL]
        by_cases e : j = m + 1
        · subst e; rw [if_pos rfl, pG1_e]
        · rw [if_neg e, pG1_n (by omega)]; exact hφ j (by omega)
      obtain ⟨σ', φ', m', r1, r2⟩ := ih fu (i + 1) (m + 1) σ4 (vp_updL φ (m + 1) (pb_sm q.1 q.2.1 q.2.2)) (by omega) ⟨pG1 G m q, _, _, N + 2, L4, k4, by split <;> omega, hV2, by omega, by omega, hφ2⟩
      refine ⟨σ', φ', m', r1, fun J => pre J w σ2 ew _ ?_⟩
      have hw74 := pl_pos w0
      refine (pb_jg _ σ2 (fun J => pl_221 hkd J)).trans ?_
      refine (pb_jg _ σ2 (fun J => pl_249 hkd w J)).trans ?_
      refine (pb_jg (1 : Int32) σ2 (fun J => ?_)).trans ?_
      · by_cases hs : 2 < kd ∧ kd < 7
        · have p := hstm hs
          rw [if_pos hs, if_neg (by decide), if_pos p.1, ql_acc6 hX hR2 hVq.1, pq_bd, if_pos p.2, if_pos (by grind)]
        · rw [if_neg hs, if_pos rfl]
      refine (pb_jg (1 : Int32) σ2 (fun J => ?_)).trans ?_
      · by_cases hs : 19 < kd ∧ kd < 25
        · obtain ⟨b, hb, hab, h2, p⟩ := hdr hs
          have eab : a = b := (pq_eq (by omega) (by omega)).mp hab
          subst eab
          rw [show (if (19 < kd ∧ kd < 25) ∧ ¬ w ≤ (-70 : Int32) then (1 : Int32) else 0) = 1 from if_pos ⟨hs, hw74.1⟩, if_neg (by decide)]
          have q16 := p16 hb h2
          have q17 := p17 hb
          rcases p with ⟨p1, p2, p3⟩ | ⟨p1, p2, p3⟩
          · refine (pb_jg (w16 * (G m).1 1) σ2 (fun J2 => by rw [if_pos (q17.trans p1)])).trans ?_
            rw [if_pos (by rw [q16]; exact p2), ql_acc9 hX hR2 hVq.1, pq_bd]
            refine (pb_jg (0 : Int32) σ2 (fun J2 => by rw [if_pos (q17.trans p1)])).trans ?_
            rw [if_pos (by rw [Int32.add_zero]; exact p3)]
          · have q0 : ¬ w17 = 0 := fun e => p1 (q17.symm.trans e)
            refine (pb_jg (0 : Int32) σ2 (fun J2 => by rw [if_neg q0])).trans ?_
            rw [if_pos p2, ql_acc9 hX hR2 hVq.1, pq_bd]
            refine (pb_jg (1 : Int32) σ2 (fun J2 => by rw [if_neg q0])).trans ?_
            rw [if_pos p3]
        · rw [show (if (19 < kd ∧ kd < 25) ∧ ¬ w ≤ (-70 : Int32) then (1 : Int32) else 0) = 0 from if_neg (fun q => hs q.1), if_pos rfl]
      show rc_lt ((1 : Int32) &&& 1) _ = _
      rw [rc_lt, rc_lt, e66, if_neg (by decide), ey, pq_bd, e3, pq_bd, if_neg (by decide)]
      refine (pl_j3 (Int32.ofNat (m + 1)) σ4 (vp_updL φ (m + 1) (pb_sm q.1 q.2.1 q.2.2)) (fun J => ?_)).trans ?_
      · rw [if_pos hw74.2, pq_s, rc_lt, e4, pq_bd, pq_in (show m + 1 < 60 by omega) (by decide), pq_ck, pq_cl (by omega), rc_lt]
      · show rc_lt (Int32.ofNat i + 1) _ = _
        rw [rc_lt, pq_s]
        exact r2 J
/-- the law answers true -/
theorem pl_law (hz : z.2.1 ≤ 260) : ∃ σ', f_L_law (w_rf x) z x (w_σ x) (fun _ => 0) = some (1, σ') := by
  obtain ⟨σ1, L1, e1, k1, f1⟩ := pk_sum (z := z) w_X w_Kx w_VI
  obtain ⟨σ2, φ2, m2, ⟨G, K, F, N, L, hk, hK, hV, hN, hm, hφ⟩, r2⟩ := pl_28 (rf := w_rf x) (z := z) w_X hz 48 0 0 0 σ1 (vp_updL (fun _ => 0) 0 (pb_sm w_g 0 0)) (by omega) ⟨w_G, 0, 0, 0, L1, k1, Or.inl rfl, w_VI, by omega, by omega, fun j hj => by
    have e : j = 0 := by omega
    subst e
    rfl⟩
  obtain ⟨σ3, e3⟩ := pk_kept (z := z) w_X (show m2 ≤ 48 by omega) hk hK hV hφ
  refine ⟨σ3, ?_⟩
  rw [f_L_law, e1, pq_bd, show rc_in (0 : Int32) 60 = true from by decide, pq_ck, rc_lt]
  refine (r2 _).trans ?_
  show rc_bd (f_L_isKept (w_rf x) z x (Int32.ofNat m2) σ2 φ2) _ = _
  rw [e3, pq_bd]
end PB13
