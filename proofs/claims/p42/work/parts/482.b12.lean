/-! ALL ROUNDS -/
theorem pl_j3 {β : Type} {f : Int32 → rc_S → (Nat → Int64) → β} {k : (Int32 → rc_S → (Nat → Int64) → β) → β} (w : Int32) (σ : rc_S) (φ : Nat → Int64) (h : ∀ J, k J = J w σ φ) : rc_jn f k = f w σ φ := h f
section PB12
variable {rf : rc_F} {z : rc_Z} {x m K F N i : Nat} {σ : rc_S} {G : Nat → pG} {L : List Nat} {φ : Nat → Int64}
theorem pl_kind (hz : z.2.1 ≤ 260) (hi : i < 48) : ∃ kd, kd < 31 ∧ ∀ (J : Int32 → rc_S → Option (Int32 × rc_S)), (if (4 : Int32) ≤ Int32.ofNat i then if (5 : Int32) ≤ Int32.ofNat i then rc_bd (f_L_pick rf z (Int32.ofNat (6 * i)) (31 : Int32) σ) fun w_70 σ_70 => J w_70 σ_70 else J (3 : Int32) σ else J (0 : Int32) σ) = J (Int32.ofNat kd) σ := by
  by_cases h4 : (4 : Int32) ≤ Int32.ofNat i
  · by_cases h5 : (5 : Int32) ≤ Int32.ofNat i
    · obtain ⟨v, hv, e⟩ := pl_pick (rf := rf) (σ := σ) hz (k := 6 * i) (by omega) (n := 31) (by omega) (by omega)
      rw [show Int32.ofNat 31 = (31 : Int32) from rfl] at e
      exact ⟨v, hv, fun J => by rw [if_pos h4, if_pos h5, e, pq_bd]⟩
    · exact ⟨3, by decide, fun J => by rw [if_pos h4, if_neg h5]; rfl⟩
  · exact ⟨0, by decide, fun J => by rw [if_neg h4]; rfl⟩
theorem pl_more {n : Nat} (hn : n ≤ 8) : ∃ ee, ee ≤ 1 ∧ (n = 0 → ee = 1) ∧ ∀ (J : Int32 → rc_S → Option (Int32 × rc_S)), (if (Int32.ofNat i - Int32.ofNat i / (9 : Int32) * (9 : Int32)) = (8 : Int32) then J (1 : Int32) σ else if Int32.ofNat n = 0 then J (1 : Int32) σ else J (0 : Int32) σ) = J (Int32.ofNat ee) σ := by
  by_cases h : (Int32.ofNat i - Int32.ofNat i / (9 : Int32) * (9 : Int32)) = (8 : Int32)
  · exact ⟨1, by decide, fun _ => rfl, fun J => by rw [if_pos h]; rfl⟩
  · by_cases h0 : n = 0
    · exact ⟨1, by decide, fun _ => rfl, fun J => by rw [if_neg h, if_pos (by rw [h0]; rfl)]; rfl⟩
    · exact ⟨0, by decide, fun q => absurd q h0, fun J => by rw [if_neg h, if_neg (show ¬ Int32.ofNat n = 0 from fun q => h0 ((pq_eq (m := 0) (n := n) (by omega) (by decide)).mp q))]; rfl⟩
theorem pl_note {g : Nat → Int32} {n p a : Nat} (hX : pq_X rf x) (hR : pq_R σ (x + 2) g n p) (hV : pq_V g n p N) (ha : a ≤ n) : ∃ w, f_L_note rf z x (Int32.ofNat a) σ = some (w, σ) ∧ (a < n → g (16 + 6 * a) ≠ 0 → w = pq_N g a 0) := by
  by_cases h : a < n
  · by_cases h2 : g (16 + 6 * a) = 0
    · exact ⟨_, ql_noteE hX hR hV h h2, fun _ q => absurd h2 q⟩
    · exact ⟨_, ql_note hX hR hV h h2, fun _ _ => rfl⟩
  · have e : a = n := by omega
    subst e
    exact ⟨_, ql_noteO hX hR hV, fun q => absurd q h⟩
theorem pl_nos {g : Nat → Int32} {n p a : Nat} (hX : pq_X rf x) (hR : pq_R σ (x + 2) g n p) (hV : pq_V g n p N) (ha : a ≤ n) : ∃ w, f_L_noticing rf z x (Int32.ofNat a) σ = some (w, σ) ∧ (a < n → w = pq_ns g p (pq_P g a)) := by
  by_cases h : a < n
  · exact ⟨_, ql_nos hX hR hV h, fun _ => rfl⟩
  · have e : a = n := by omega
    subst e
    exact ⟨_, ql_nosO hX hR hV, fun q => absurd q h⟩
theorem pl_221 {kd : Nat} (hkd : kd < 31) (J : Int32 → rc_S → Option (Int32 × rc_S)) : (if Int32.ofNat kd ≤ (2 : Int32) then J (0 : Int32) σ else if (7 : Int32) ≤ Int32.ofNat kd then J (0 : Int32) σ else J (1 : Int32) σ) = J (if 2 < kd ∧ kd < 7 then 1 else 0) σ := by
  by_cases h : Int32.ofNat kd ≤ (2 : Int32)
  · have := (pq_le (m := 2) (by omega) (by decide)).mp h
    rw [if_pos h, if_neg (by omega)]
  · have h1 : ¬ kd ≤ 2 := fun q => h ((pq_le (m := 2) (by omega) (by decide)).mpr q)
    by_cases h2 : (7 : Int32) ≤ Int32.ofNat kd
    · have := (pq_le (n := 7) (by decide) (by omega)).mp h2
      rw [if_neg h, if_pos h2, if_neg (by omega)]
    · have h3 : ¬ 7 ≤ kd := fun q => h2 ((pq_le (n := 7) (by decide) (by omega)).mpr q)
      rw [if_neg h, if_neg h2, if_pos (by omega)]
theorem pl_249 {kd : Nat} (hkd : kd < 31) (w : Int32) (J : Int32 → rc_S → Option (Int32 × rc_S)) : (if Int32.ofNat kd ≤ (19 : Int32) then J (0 : Int32) σ else if (25 : Int32) ≤ Int32.ofNat kd then J (0 : Int32) σ else if w ≤ (-70 : Int32) then J (0 : Int32) σ else J (1 : Int32) σ) = J (if (19 < kd ∧ kd < 25) ∧ ¬ w ≤ -70 then 1 else 0) σ := by
  by_cases h : Int32.ofNat kd ≤ (19 : Int32)
  · have := (pq_le (m := 19) (by omega) (by decide)).mp h
    rw [if_pos h, if_neg (by omega)]
  · have h1 : ¬ kd ≤ 19 := fun q => h ((pq_le (m := 19) (by omega) (by decide)).mpr q)
    by_cases h2 : (25 : Int32) ≤ Int32.ofNat kd
    · have := (pq_le (n := 25) (by decide) (by omega)).mp h2
      rw [if_neg h, if_pos h2, if_neg (by omega)]
    · have h3 : ¬ 25 ≤ kd := fun q => h2 ((pq_le (n := 25) (by decide) (by omega)).mpr q)
      by_cases h4 : w ≤ (-70 : Int32)
      · rw [if_neg h, if_neg h2, if_pos h4, if_neg (fun q => q.2 h4)]
      · rw [if_neg h, if_neg h2, if_neg h4, if_pos ⟨by omega, h4⟩]
theorem pl_pos {w : Int32} (h : 0 ≤ w.toInt) : ¬ w ≤ (-70 : Int32) ∧ (-74 : Int32) < w := by
  refine ⟨fun q => ?_, ?_⟩
  · have := Int32.le_iff_toInt_le.mp q
    rw [show (-70 : Int32).toInt = -70 from rfl] at this
    omega
  · rw [Int32.lt_iff_toInt_lt, show (-74 : Int32).toInt = -74 from rfl]
    omega
theorem pl_upL {φ : Nat → Int64} {k j : Nat} {v : Int64} : vp_updL φ k v j = if j = k then v else φ j := rfl
end PB12
