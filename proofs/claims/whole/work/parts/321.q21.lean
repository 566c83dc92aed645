section PQE
variable {rf : rc_F} {x c : Nat} {σ : rc_S}
theorem pc_x0 : Int32.ofNat c * 3 + 0 = Int32.ofNat (3 * c) := pc_nx (nc := 0)
theorem pc_x1 : Int32.ofNat c * 3 + 1 = Int32.ofNat (3 * c + 1) := pc_nx (nc := 1)
theorem pc_x2 : Int32.ofNat c * 3 + 2 = Int32.ofNat (3 * c + 2) := pc_nx (nc := 2)
theorem pc_y1 : (4 : Int32) * Int32.ofNat c + 1 = Int32.ofNat (4 * c + 1) := pc_tx (k := 1)
theorem pc_y2 : (4 : Int32) * Int32.ofNat c + 2 = Int32.ofNat (4 * c + 2) := pc_tx (k := 2)
theorem pc_y3 : (4 : Int32) * Int32.ofNat c + 3 = Int32.ofNat (4 * c + 3) := pc_tx (k := 3)
theorem pc_y3b : Int32.ofNat (4 * c) + 3 = Int32.ofNat (4 * c + 3) := by rw [Int32.ofNat_add (4 * c) 3]; rfl
theorem pc_so {α : Type} {A : Option (α × rc_S)} : (rc_bd A fun v s => some (v, s)) = A := by
  cases A with
  | none => rfl
  | some q => rfl
/-- a command is carried out alike -/
theorem pc_do (hX : pq_X rf x) (hc : c < 60) (hk : pc_fo (σ (x + 304) c) < 5) : ∃ A B, pq_Op x A B ∧ f_X8_carryOut rf x (Int32.ofNat c) σ = A σ ∧ ∀ τ, pc_s σ τ x c → f_X9_does rf (x + 308) (Int32.ofNat c) τ = B τ := by
  have hM := pq_xm hX
  rw [f_X8_carryOut, pq_x6 hX, pq_x0 hX, f_X6_numberOf, pc_x0, pq_in (show 3 * c < 180 by omega) (by decide), pq_ck, pq_cl (show 3 * c < 2147483648 by omega), pq_t3 hX, pq_bd, f_X6_numberOf, pc_x1, pq_in (show 3 * c + 1 < 180 by omega) (by decide), pq_ck, pq_cl (show 3 * c + 1 < 2147483648 by omega), pq_t3 hX, pq_bd, pq_in hc (by decide), pq_ck, pq_t2 hX, pq_cl (show c < 2147483648 by omega)]
  have hd : ∀ τ, f_X9_does rf (x + 308) (Int32.ofNat c) τ = f_X9_does rf (x + 308) (Int32.ofNat c) τ := fun _ => rfl
  have pre : ∀ τ, pc_s σ τ x c → τ (x + 308 + 6) (4 * c) = σ (x + 304) c := fun τ h => h.2.1.symm
  by_cases c98 : σ (x + 304) c = 98
  · refine ⟨f_X7_placeBarrel rf (x + 1) (σ (x + 305) (3 * c)), f_X9_places rf (x + 308) (σ (x + 305) (3 * c)), qo_place hX, by rw [if_pos c98, pc_so], fun τ h => ?_⟩
    have p0 := pre τ h
    have hz := h.2.2
    rw [c98, show pc_nn (pc_fm (pc_fo 98)) = 1 from by decide] at hz
    have z0 := hz 0 (by omega)
    rw [f_X9_does, pc_y1, pq_in (show 4 * c + 1 < 240 by omega) (by decide), pq_ck, pq_cl (show 4 * c + 1 < 2147483648 by omega), pq_m8 hM, rc_lt, pc_y2, pq_in (show 4 * c + 2 < 240 by omega) (by decide), pq_ck, pq_cl (show 4 * c + 2 < 2147483648 by omega), rc_lt, pc_t0, pq_in (show 4 * c < 240 by omega) (by decide), pq_ck, pq_cl (show 4 * c < 2147483648 by omega), if_pos (show τ (x + 308 + 6) (4 * c) = 98 by rw [p0, c98]), pc_so]
    rw [show τ (x + 308 + 6) (4 * c + 1) = σ (x + 305) (3 * c) from z0.symm]
  by_cases c99 : σ (x + 304) c = 99
  · refine ⟨f_X7_clearRoof rf (x + 1) (σ (x + 305) (3 * c)), f_X9_clears rf (x + 308) (σ (x + 305) (3 * c)), qo_clear hX, by rw [if_neg (show ¬ σ (x + 304) c = 98 by rw [c99]; decide), if_pos c99, pc_so], fun τ h => ?_⟩
    have p0 := pre τ h
    have hz := h.2.2
    rw [c99, show pc_nn (pc_fm (pc_fo 99)) = 1 from by decide] at hz
    have z0 := hz 0 (by omega)
    rw [f_X9_does, pc_y1, pq_in (show 4 * c + 1 < 240 by omega) (by decide), pq_ck, pq_cl (show 4 * c + 1 < 2147483648 by omega), pq_m8 hM, rc_lt, pc_y2, pq_in (show 4 * c + 2 < 240 by omega) (by decide), pq_ck, pq_cl (show 4 * c + 2 < 2147483648 by omega), rc_lt, pc_t0, pq_in (show 4 * c < 240 by omega) (by decide), pq_ck, pq_cl (show 4 * c < 2147483648 by omega), if_neg (show ¬ τ (x + 308 + 6) (4 * c) = 98 by rw [p0, c99]; decide), if_pos (show τ (x + 308 + 6) (4 * c) = 99 by rw [p0, c99]), pc_so]
    rw [show τ (x + 308 + 6) (4 * c + 1) = σ (x + 305) (3 * c) from z0.symm]
  by_cases c103 : σ (x + 304) c = 103
  · refine ⟨f_X7_letPanelDrink rf (x + 1) (σ (x + 305) (3 * c)), f_X9_drinks rf (x + 308) (σ (x + 305) (3 * c)), qo_drink hX, by rw [if_neg (show ¬ σ (x + 304) c = 98 by rw [c103]; decide), if_neg (show ¬ σ (x + 304) c = 99 by rw [c103]; decide), if_pos c103, pc_so], fun τ h => ?_⟩
    have p0 := pre τ h
    have hz := h.2.2
    rw [c103, show pc_nn (pc_fm (pc_fo 103)) = 1 from by decide] at hz
    have z0 := hz 0 (by omega)
    rw [f_X9_does, pc_y1, pq_in (show 4 * c + 1 < 240 by omega) (by decide), pq_ck, pq_cl (show 4 * c + 1 < 2147483648 by omega), pq_m8 hM, rc_lt, pc_y2, pq_in (show 4 * c + 2 < 240 by omega) (by decide), pq_ck, pq_cl (show 4 * c + 2 < 2147483648 by omega), rc_lt, pc_t0, pq_in (show 4 * c < 240 by omega) (by decide), pq_ck, pq_cl (show 4 * c < 2147483648 by omega), if_neg (show ¬ τ (x + 308 + 6) (4 * c) = 98 by rw [p0, c103]; decide), if_neg (show ¬ τ (x + 308 + 6) (4 * c) = 99 by rw [p0, c103]; decide), if_pos (show τ (x + 308 + 6) (4 * c) = 103 by rw [p0, c103]), pc_so]
    rw [show τ (x + 308 + 6) (4 * c + 1) = σ (x + 305) (3 * c) from z0.symm]
  by_cases c104 : σ (x + 304) c = 104
  · refine ⟨f_X7_adulterate rf (x + 1) (σ (x + 305) (3 * c)) (σ (x + 305) (3 * c + 1)), f_X9_adulterates rf (x + 308) (σ (x + 305) (3 * c)) (σ (x + 305) (3 * c + 1)), qo_hail hX, by rw [if_neg (show ¬ σ (x + 304) c = 98 by rw [c104]; decide), if_neg (show ¬ σ (x + 304) c = 99 by rw [c104]; decide), if_neg (show ¬ σ (x + 304) c = 103 by rw [c104]; decide), if_pos c104, pc_so], fun τ h => ?_⟩
    have p0 := pre τ h
    have hz := h.2.2
    rw [c104, show pc_nn (pc_fm (pc_fo 104)) = 2 from by decide] at hz
    have z0 := hz 0 (by omega)
    have z1 := hz 1 (by omega)
    rw [f_X9_does, pc_y1, pq_in (show 4 * c + 1 < 240 by omega) (by decide), pq_ck, pq_cl (show 4 * c + 1 < 2147483648 by omega), pq_m8 hM, rc_lt, pc_y2, pq_in (show 4 * c + 2 < 240 by omega) (by decide), pq_ck, pq_cl (show 4 * c + 2 < 2147483648 by omega), rc_lt, pc_t0, pq_in (show 4 * c < 240 by omega) (by decide), pq_ck, pq_cl (show 4 * c < 2147483648 by omega), if_neg (show ¬ τ (x + 308 + 6) (4 * c) = 98 by rw [p0, c104]; decide), if_neg (show ¬ τ (x + 308 + 6) (4 * c) = 99 by rw [p0, c104]; decide), if_neg (show ¬ τ (x + 308 + 6) (4 * c) = 103 by rw [p0, c104]; decide), if_pos (show τ (x + 308 + 6) (4 * c) = 104 by rw [p0, c104]), pc_so]
    rw [show τ (x + 308 + 6) (4 * c + 1) = σ (x + 305) (3 * c) from z0.symm, show τ (x + 308 + 6) (4 * c + 2) = σ (x + 305) (3 * c + 1) from z1.symm]
  by_cases c108 : σ (x + 304) c = 108
  · refine ⟨f_X7_letLeave rf (x + 1) (σ (x + 305) (3 * c)), f_X9_leaves rf (x + 308) (σ (x + 305) (3 * c)), qo_leave hX, by rw [if_neg (show ¬ σ (x + 304) c = 98 by rw [c108]; decide), if_neg (show ¬ σ (x + 304) c = 99 by rw [c108]; decide), if_neg (show ¬ σ (x + 304) c = 103 by rw [c108]; decide), if_neg (show ¬ σ (x + 304) c = 104 by rw [c108]; decide), if_pos c108, pc_so], fun τ h => ?_⟩
    have p0 := pre τ h
    have hz := h.2.2
    rw [c108, show pc_nn (pc_fm (pc_fo 108)) = 1 from by decide] at hz
    have z0 := hz 0 (by omega)
    rw [f_X9_does, pc_y1, pq_in (show 4 * c + 1 < 240 by omega) (by decide), pq_ck, pq_cl (show 4 * c + 1 < 2147483648 by omega), pq_m8 hM, rc_lt, pc_y2, pq_in (show 4 * c + 2 < 240 by omega) (by decide), pq_ck, pq_cl (show 4 * c + 2 < 2147483648 by omega), rc_lt, pc_t0, pq_in (show 4 * c < 240 by omega) (by decide), pq_ck, pq_cl (show 4 * c < 2147483648 by omega), if_neg (show ¬ τ (x + 308 + 6) (4 * c) = 98 by rw [p0, c108]; decide), if_neg (show ¬ τ (x + 308 + 6) (4 * c) = 99 by rw [p0, c108]; decide), if_neg (show ¬ τ (x + 308 + 6) (4 * c) = 103 by rw [p0, c108]; decide), if_neg (show ¬ τ (x + 308 + 6) (4 * c) = 104 by rw [p0, c108]; decide), if_pos (show τ (x + 308 + 6) (4 * c) = 108 by rw [p0, c108]), pc_so]
    rw [show τ (x + 308 + 6) (4 * c + 1) = σ (x + 305) (3 * c) from z0.symm]
  by_cases c109 : σ (x + 304) c = 109
  · refine ⟨f_X7_letCome rf (x + 1) (σ (x + 305) (3 * c)) 0, f_X9_joins rf (x + 308) (σ (x + 305) (3 * c)) 0, qo_join hX (Or.inl rfl), by rw [if_neg (show ¬ σ (x + 304) c = 98 by rw [c109]; decide), if_neg (show ¬ σ (x + 304) c = 99 by rw [c109]; decide), if_neg (show ¬ σ (x + 304) c = 103 by rw [c109]; decide), if_neg (show ¬ σ (x + 304) c = 104 by rw [c109]; decide), if_neg (show ¬ σ (x + 304) c = 108 by rw [c109]; decide), if_pos c109, pc_so], fun τ h => ?_⟩
    have p0 := pre τ h
    have hz := h.2.2
    rw [c109, show pc_nn (pc_fm (pc_fo 109)) = 1 from by decide] at hz
    have z0 := hz 0 (by omega)
    rw [f_X9_does, pc_y1, pq_in (show 4 * c + 1 < 240 by omega) (by decide), pq_ck, pq_cl (show 4 * c + 1 < 2147483648 by omega), pq_m8 hM, rc_lt, pc_y2, pq_in (show 4 * c + 2 < 240 by omega) (by decide), pq_ck, pq_cl (show 4 * c + 2 < 2147483648 by omega), rc_lt, pc_t0, pq_in (show 4 * c < 240 by omega) (by decide), pq_ck, pq_cl (show 4 * c < 2147483648 by omega), if_neg (show ¬ τ (x + 308 + 6) (4 * c) = 98 by rw [p0, c109]; decide), if_neg (show ¬ τ (x + 308 + 6) (4 * c) = 99 by rw [p0, c109]; decide), if_neg (show ¬ τ (x + 308 + 6) (4 * c) = 103 by rw [p0, c109]; decide), if_neg (show ¬ τ (x + 308 + 6) (4 * c) = 104 by rw [p0, c109]; decide), if_neg (show ¬ τ (x + 308 + 6) (4 * c) = 108 by rw [p0, c109]; decide), if_pos (show τ (x + 308 + 6) (4 * c) = 109 by rw [p0, c109]), pc_so]
    rw [show τ (x + 308 + 6) (4 * c + 1) = σ (x + 305) (3 * c) from z0.symm]
  by_cases c112 : σ (x + 304) c = 112
  · refine ⟨f_X7_pourOver rf (x + 1) (σ (x + 305) (3 * c)) (σ (x + 305) (3 * c + 1)) (σ (x + 305) (3 * c + 2)), f_X9_pours rf (x + 308) (σ (x + 305) (3 * c)) (σ (x + 305) (3 * c + 1)) (σ (x + 305) (3 * c + 2)), qo_pour hX, by rw [if_neg (show ¬ σ (x + 304) c = 98 by rw [c112]; decide), if_neg (show ¬ σ (x + 304) c = 99 by rw [c112]; decide), if_neg (show ¬ σ (x + 304) c = 103 by rw [c112]; decide), if_neg (show ¬ σ (x + 304) c = 104 by rw [c112]; decide), if_neg (show ¬ σ (x + 304) c = 108 by rw [c112]; decide), if_neg (show ¬ σ (x + 304) c = 109 by rw [c112]; decide), if_pos c112, f_X6_numberOf, pc_x2, pq_in (show 3 * c + 2 < 180 by omega) (by decide), pq_ck, pq_cl (show 3 * c + 2 < 2147483648 by omega), pq_t3 hX, pq_bd, pc_so], fun τ h => ?_⟩
    have p0 := pre τ h
    have hz := h.2.2
    rw [c112, show pc_nn (pc_fm (pc_fo 112)) = 3 from by decide] at hz
    have z0 := hz 0 (by omega)
    have z1 := hz 1 (by omega)
    have z2 := hz 2 (by omega)
    rw [f_X9_does, pc_y1, pq_in (show 4 * c + 1 < 240 by omega) (by decide), pq_ck, pq_cl (show 4 * c + 1 < 2147483648 by omega), pq_m8 hM, rc_lt, pc_y2, pq_in (show 4 * c + 2 < 240 by omega) (by decide), pq_ck, pq_cl (show 4 * c + 2 < 2147483648 by omega), rc_lt, pc_t0, pq_in (show 4 * c < 240 by omega) (by decide), pq_ck, pq_cl (show 4 * c < 2147483648 by omega), if_neg (show ¬ τ (x + 308 + 6) (4 * c) = 98 by rw [p0, c112]; decide), if_neg (show ¬ τ (x + 308 + 6) (4 * c) = 99 by rw [p0, c112]; decide), if_neg (show ¬ τ (x + 308 + 6) (4 * c) = 103 by rw [p0, c112]; decide), if_neg (show ¬ τ (x + 308 + 6) (4 * c) = 104 by rw [p0, c112]; decide), if_neg (show ¬ τ (x + 308 + 6) (4 * c) = 108 by rw [p0, c112]; decide), if_neg (show ¬ τ (x + 308 + 6) (4 * c) = 109 by rw [p0, c112]; decide), if_pos (show τ (x + 308 + 6) (4 * c) = 112 by rw [p0, c112]), pc_y3b, pq_in (show 4 * c + 3 < 240 by omega) (by decide), pq_ck, pq_cl (show 4 * c + 3 < 2147483648 by omega), pc_so]
    rw [show τ (x + 308 + 6) (4 * c + 1) = σ (x + 305) (3 * c) from z0.symm, show τ (x + 308 + 6) (4 * c + 2) = σ (x + 305) (3 * c + 1) from z1.symm, show τ (x + 308 + 6) (4 * c + 3) = σ (x + 305) (3 * c + 2) from z2.symm]
  by_cases c115 : σ (x + 304) c = 115
  · refine ⟨f_X7_letStormBy rf (x + 1) (σ (x + 305) (3 * c)) (σ (x + 305) (3 * c + 1)), f_X9_storms rf (x + 308) (σ (x + 305) (3 * c)) (σ (x + 305) (3 * c + 1)), qo_storm hX, by rw [if_neg (show ¬ σ (x + 304) c = 98 by rw [c115]; decide), if_neg (show ¬ σ (x + 304) c = 99 by rw [c115]; decide), if_neg (show ¬ σ (x + 304) c = 103 by rw [c115]; decide), if_neg (show ¬ σ (x + 304) c = 104 by rw [c115]; decide), if_neg (show ¬ σ (x + 304) c = 108 by rw [c115]; decide), if_neg (show ¬ σ (x + 304) c = 109 by rw [c115]; decide), if_neg (show ¬ σ (x + 304) c = 112 by rw [c115]; decide), if_pos c115, pc_so], fun τ h => ?_⟩
    have p0 := pre τ h
    have hz := h.2.2
    rw [c115, show pc_nn (pc_fm (pc_fo 115)) = 2 from by decide] at hz
    have z0 := hz 0 (by omega)
    have z1 := hz 1 (by omega)
    rw [f_X9_does, pc_y1, pq_in (show 4 * c + 1 < 240 by omega) (by decide), pq_ck, pq_cl (show 4 * c + 1 < 2147483648 by omega), pq_m8 hM, rc_lt, pc_y2, pq_in (show 4 * c + 2 < 240 by omega) (by decide), pq_ck, pq_cl (show 4 * c + 2 < 2147483648 by omega), rc_lt, pc_t0, pq_in (show 4 * c < 240 by omega) (by decide), pq_ck, pq_cl (show 4 * c < 2147483648 by omega), if_neg (show ¬ τ (x + 308 + 6) (4 * c) = 98 by rw [p0, c115]; decide), if_neg (show ¬ τ (x + 308 + 6) (4 * c) = 99 by rw [p0, c115]; decide), if_neg (show ¬ τ (x + 308 + 6) (4 * c) = 103 by rw [p0, c115]; decide), if_neg (show ¬ τ (x + 308 + 6) (4 * c) = 104 by rw [p0, c115]; decide), if_neg (show ¬ τ (x + 308 + 6) (4 * c) = 108 by rw [p0, c115]; decide), if_neg (show ¬ τ (x + 308 + 6) (4 * c) = 109 by rw [p0, c115]; decide), if_neg (show ¬ τ (x + 308 + 6) (4 * c) = 112 by rw [p0, c115]; decide), if_pos (show τ (x + 308 + 6) (4 * c) = 115 by rw [p0, c115]), pc_so]
    rw [show τ (x + 308 + 6) (4 * c + 1) = σ (x + 305) (3 * c) from z0.symm, show τ (x + 308 + 6) (4 * c + 2) = σ (x + 305) (3 * c + 1) from z1.symm]
  by_cases c116 : σ (x + 304) c = 116
  · refine ⟨f_X7_letCome rf (x + 1) (σ (x + 305) (3 * c)) 1, f_X9_joins rf (x + 308) (σ (x + 305) (3 * c)) 1, qo_join hX (Or.inr rfl), by rw [if_neg (show ¬ σ (x + 304) c = 98 by rw [c116]; decide), if_neg (show ¬ σ (x + 304) c = 99 by rw [c116]; decide), if_neg (show ¬ σ (x + 304) c = 103 by rw [c116]; decide), if_neg (show ¬ σ (x + 304) c = 104 by rw [c116]; decide), if_neg (show ¬ σ (x + 304) c = 108 by rw [c116]; decide), if_neg (show ¬ σ (x + 304) c = 109 by rw [c116]; decide), if_neg (show ¬ σ (x + 304) c = 112 by rw [c116]; decide), if_neg (show ¬ σ (x + 304) c = 115 by rw [c116]; decide), if_pos c116, pc_so], fun τ h => ?_⟩
    have p0 := pre τ h
    have hz := h.2.2
    rw [c116, show pc_nn (pc_fm (pc_fo 116)) = 1 from by decide] at hz
    have z0 := hz 0 (by omega)
    rw [f_X9_does, pc_y1, pq_in (show 4 * c + 1 < 240 by omega) (by decide), pq_ck, pq_cl (show 4 * c + 1 < 2147483648 by omega), pq_m8 hM, rc_lt, pc_y2, pq_in (show 4 * c + 2 < 240 by omega) (by decide), pq_ck, pq_cl (show 4 * c + 2 < 2147483648 by omega), rc_lt, pc_t0, pq_in (show 4 * c < 240 by omega) (by decide), pq_ck, pq_cl (show 4 * c < 2147483648 by omega), if_neg (show ¬ τ (x + 308 + 6) (4 * c) = 98 by rw [p0, c116]; decide), if_neg (show ¬ τ (x + 308 + 6) (4 * c) = 99 by rw [p0, c116]; decide), if_neg (show ¬ τ (x + 308 + 6) (4 * c) = 103 by rw [p0, c116]; decide), if_neg (show ¬ τ (x + 308 + 6) (4 * c) = 104 by rw [p0, c116]; decide), if_neg (show ¬ τ (x + 308 + 6) (4 * c) = 108 by rw [p0, c116]; decide), if_neg (show ¬ τ (x + 308 + 6) (4 * c) = 109 by rw [p0, c116]; decide), if_neg (show ¬ τ (x + 308 + 6) (4 * c) = 112 by rw [p0, c116]; decide), if_neg (show ¬ τ (x + 308 + 6) (4 * c) = 115 by rw [p0, c116]; decide), if_pos (show τ (x + 308 + 6) (4 * c) = 116 by rw [p0, c116]), pc_so]
    rw [show τ (x + 308 + 6) (4 * c + 1) = σ (x + 305) (3 * c) from z0.symm]
  by_cases c120 : σ (x + 304) c = 120
  · refine ⟨f_X7_removeBarrel rf (x + 1) (σ (x + 305) (3 * c)), f_X9_takes rf (x + 308) (σ (x + 305) (3 * c)), qo_take hX, by rw [if_neg (show ¬ σ (x + 304) c = 98 by rw [c120]; decide), if_neg (show ¬ σ (x + 304) c = 99 by rw [c120]; decide), if_neg (show ¬ σ (x + 304) c = 103 by rw [c120]; decide), if_neg (show ¬ σ (x + 304) c = 104 by rw [c120]; decide), if_neg (show ¬ σ (x + 304) c = 108 by rw [c120]; decide), if_neg (show ¬ σ (x + 304) c = 109 by rw [c120]; decide), if_neg (show ¬ σ (x + 304) c = 112 by rw [c120]; decide), if_neg (show ¬ σ (x + 304) c = 115 by rw [c120]; decide), if_neg (show ¬ σ (x + 304) c = 116 by rw [c120]; decide), if_pos c120, pc_so], fun τ h => ?_⟩
    have p0 := pre τ h
    have hz := h.2.2
    rw [c120, show pc_nn (pc_fm (pc_fo 120)) = 1 from by decide] at hz
    have z0 := hz 0 (by omega)
    rw [f_X9_does, pc_y1, pq_in (show 4 * c + 1 < 240 by omega) (by decide), pq_ck, pq_cl (show 4 * c + 1 < 2147483648 by omega), pq_m8 hM, rc_lt, pc_y2, pq_in (show 4 * c + 2 < 240 by omega) (by decide), pq_ck, pq_cl (show 4 * c + 2 < 2147483648 by omega), rc_lt, pc_t0, pq_in (show 4 * c < 240 by omega) (by decide), pq_ck, pq_cl (show 4 * c < 2147483648 by omega), if_neg (show ¬ τ (x + 308 + 6) (4 * c) = 98 by rw [p0, c120]; decide), if_neg (show ¬ τ (x + 308 + 6) (4 * c) = 99 by rw [p0, c120]; decide), if_neg (show ¬ τ (x + 308 + 6) (4 * c) = 103 by rw [p0, c120]; decide), if_neg (show ¬ τ (x + 308 + 6) (4 * c) = 104 by rw [p0, c120]; decide), if_neg (show ¬ τ (x + 308 + 6) (4 * c) = 108 by rw [p0, c120]; decide), if_neg (show ¬ τ (x + 308 + 6) (4 * c) = 109 by rw [p0, c120]; decide), if_neg (show ¬ τ (x + 308 + 6) (4 * c) = 112 by rw [p0, c120]; decide), if_neg (show ¬ τ (x + 308 + 6) (4 * c) = 115 by rw [p0, c120]; decide), if_neg (show ¬ τ (x + 308 + 6) (4 * c) = 116 by rw [p0, c120]; decide), if_pos (show τ (x + 308 + 6) (4 * c) = 120 by rw [p0, c120]), pc_so]
    rw [show τ (x + 308 + 6) (4 * c + 1) = σ (x + 305) (3 * c) from z0.symm]
  by_cases c121 : σ (x + 304) c = 121
  · refine ⟨f_X7_letYearGoBy rf (x + 1), f_X9_passes rf (x + 308), qo_year hX, by rw [if_neg (show ¬ σ (x + 304) c = 98 by rw [c121]; decide), if_neg (show ¬ σ (x + 304) c = 99 by rw [c121]; decide), if_neg (show ¬ σ (x + 304) c = 103 by rw [c121]; decide), if_neg (show ¬ σ (x + 304) c = 104 by rw [c121]; decide), if_neg (show ¬ σ (x + 304) c = 108 by rw [c121]; decide), if_neg (show ¬ σ (x + 304) c = 109 by rw [c121]; decide), if_neg (show ¬ σ (x + 304) c = 112 by rw [c121]; decide), if_neg (show ¬ σ (x + 304) c = 115 by rw [c121]; decide), if_neg (show ¬ σ (x + 304) c = 116 by rw [c121]; decide), if_neg (show ¬ σ (x + 304) c = 120 by rw [c121]; decide), pc_so], fun τ h => ?_⟩
    have p0 := pre τ h
    have hz := h.2.2
    rw [c121, show pc_nn (pc_fm (pc_fo 121)) = 0 from by decide] at hz
    rw [f_X9_does, pc_y1, pq_in (show 4 * c + 1 < 240 by omega) (by decide), pq_ck, pq_cl (show 4 * c + 1 < 2147483648 by omega), pq_m8 hM, rc_lt, pc_y2, pq_in (show 4 * c + 2 < 240 by omega) (by decide), pq_ck, pq_cl (show 4 * c + 2 < 2147483648 by omega), rc_lt, pc_t0, pq_in (show 4 * c < 240 by omega) (by decide), pq_ck, pq_cl (show 4 * c < 2147483648 by omega), if_neg (show ¬ τ (x + 308 + 6) (4 * c) = 98 by rw [p0, c121]; decide), if_neg (show ¬ τ (x + 308 + 6) (4 * c) = 99 by rw [p0, c121]; decide), if_neg (show ¬ τ (x + 308 + 6) (4 * c) = 103 by rw [p0, c121]; decide), if_neg (show ¬ τ (x + 308 + 6) (4 * c) = 104 by rw [p0, c121]; decide), if_neg (show ¬ τ (x + 308 + 6) (4 * c) = 108 by rw [p0, c121]; decide), if_neg (show ¬ τ (x + 308 + 6) (4 * c) = 109 by rw [p0, c121]; decide), if_neg (show ¬ τ (x + 308 + 6) (4 * c) = 112 by rw [p0, c121]; decide), if_neg (show ¬ τ (x + 308 + 6) (4 * c) = 115 by rw [p0, c121]; decide), if_neg (show ¬ τ (x + 308 + 6) (4 * c) = 116 by rw [p0, c121]; decide), if_neg (show ¬ τ (x + 308 + 6) (4 * c) = 120 by rw [p0, c121]; decide), pc_so]
  exfalso
  revert hk
  unfold pc_fo
  rw [if_neg c98, if_neg c99, if_neg c103, if_neg c104, if_neg c108, if_neg c109, if_neg c112, if_neg c115, if_neg c116, if_neg c120, if_neg c121]
  decide
end PQE
