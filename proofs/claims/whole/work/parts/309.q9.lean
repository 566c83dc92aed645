/-- the text buffer, both sides -/
def pq_T (σ : rc_S) (x Ln : Nat) : Prop := σ (x + 302) 1 = Int32.ofNat Ln ∧ σ (x + 308) 10 = Int32.ofNat Ln ∧ Ln ≤ 60 ∧ ∀ k, k < Ln → σ (x + 303) k = σ (x + 308 + 5) k ∧ vp_nar .char (σ (x + 303) k) = σ (x + 303) k
/-- what was set aside: the class's ring, the reference's row -/
def pq_H (rf : rc_F) (σ : rc_S) (x Bd : Nat) : Prop := ∃ K F, K ≤ 8 ∧ F < 9 ∧ σ (x + 57) 2 = Int32.ofNat K ∧ σ (x + 308) 5 = Int32.ofNat K ∧ σ (x + 57) 1 = Int32.ofNat F ∧ ∀ j, j < K → ∃ n p, pq_R σ (x + 59 + 27 * ((F + j) % 9)) (fun i => σ (x + 308 + 4) (107 * j + i)) n p ∧ pq_V (fun i => σ (x + 308 + 4) (107 * j + i)) n p Bd
/-- what always holds of both sides together -/
def pq_J (rf : rc_F) (σ : rc_S) (x Bd Ln : Nat) : Prop :=
  (∃ n p, pq_R σ (x + 2) (σ (x + 308 + 1)) n p ∧ pq_V (σ (x + 308 + 1)) n p Bd) ∧
  (σ x 4 = σ (x + 308) 6 ∧ (σ x 4 ≠ 0 → ∃ n p, pq_R σ (x + 30) (σ (x + 308 + 3)) n p ∧ pq_V (σ (x + 308 + 3)) n p Bd)) ∧
  pq_H rf σ x Bd ∧ pq_T σ x Ln ∧ σ x 7 = σ (x + 308) 12 ∧ (σ (x + 29) 0 = σ (x + 308) 13 ∧ σ (x + 29) 1 = σ (x + 308) 14 ∧ σ (x + 29) 2 = σ (x + 308) 15) ∧ ∃ L, pq_OC σ x L ∧ pq_OR σ (x + 308) L
theorem pq_Vm {g : Nat → Int32} {n p N N' : Nat} (h : pq_V g n p N) (hN : N ≤ N') : pq_V g n p N' := by
  obtain ⟨h0, h1, h2, h3, h4, hm, hb, hp⟩ := h
  refine ⟨h0, h1, h2, ⟨h3.1, by have := h3.2; omega⟩, ⟨h4.1, by have := h4.2; omega⟩, hm, fun b hb' => ?_, hp⟩
  have q := hb b hb'
  exact ⟨q.1, q.2.1, ⟨q.2.2.1.1, by have := q.2.2.1.2; omega⟩, q.2.2.2⟩
theorem pq_Hf {rf : rc_F} {σ σ' : rc_S} {x Bd Bd' : Nat} (h : pq_H rf σ x Bd) (hB : Bd ≤ Bd') (h57 : σ' (x + 57) = σ (x + 57)) (h5 : σ' (x + 308) 5 = σ (x + 308) 5) (hr : ∀ a, x + 59 ≤ a → a < x + 302 → σ' a = σ a) (h4 : σ' (x + 308 + 4) = σ (x + 308 + 4)) : pq_H rf σ' x Bd' := by
  obtain ⟨K, F, hK, hF, e1, e2, e3, hj⟩ := h
  refine ⟨K, F, hK, hF, by rw [h57]; exact e1, by rw [h5]; exact e2, by rw [h57]; exact e3, fun j hj' => ?_⟩
  obtain ⟨n, p, r1, r2⟩ := hj j hj'
  have hm : (F + j) % 9 < 9 := Nat.mod_lt _ (by decide)
  rw [h4]
  exact ⟨n, p, pq_Rf r1 (pq_vn r2) (fun a a1 a2 => hr a (by omega) (by omega)), pq_Vm r2 hB⟩
/-- what changes no more than output and 'thrown' keeps all -/
theorem pq_Jf {rf : rc_F} {σ σ' : rc_S} {x Bd Ln : Nat} (h : pq_J rf σ x Bd Ln) (hf : ∀ a, a ≠ x + 306 → a ≠ x + 307 → a ≠ x + 308 → a ≠ x + 308 + 7 → σ' a = σ a) (hm : ∀ j, j ≠ 0 → j ≠ 11 → σ' (x + 308) j = σ (x + 308) j) (hO : ∃ L, pq_OC σ' x L ∧ pq_OR σ' (x + 308) L) : pq_J rf σ' x Bd Ln := by
  obtain ⟨⟨n, p, r1, r2⟩, ⟨s1, s2⟩, hH, ⟨t1, t2, t3, t4⟩, f1, ⟨w0, w1, w2⟩, -⟩ := h
  have e1 : σ' (x + 308 + 1) = σ (x + 308 + 1) := hf _ (by omega) (by omega) (by omega) (by omega)
  have e3 : σ' (x + 308 + 3) = σ (x + 308 + 3) := hf _ (by omega) (by omega) (by omega) (by omega)
  have e5 : σ' (x + 308 + 5) = σ (x + 308 + 5) := hf _ (by omega) (by omega) (by omega) (by omega)
  have ex : σ' x = σ x := hf _ (by omega) (by omega) (by omega) (by omega)
  have e29 : σ' (x + 29) = σ (x + 29) := hf _ (by omega) (by omega) (by omega) (by omega)
  have et : σ' (x + 302) = σ (x + 302) := hf _ (by omega) (by omega) (by omega) (by omega)
  have et3 : σ' (x + 303) = σ (x + 303) := hf _ (by omega) (by omega) (by omega) (by omega)
  refine ⟨⟨n, p, ?_, ?_⟩, ⟨?_, fun q => ?_⟩, ?_, ⟨?_, ?_, t3, fun k hk => ?_⟩, ?_, ⟨?_, ?_, ?_⟩, hO⟩
  · rw [e1]; exact pq_Rf r1 (pq_vn r2) (fun a a1 a2 => hf a (by omega) (by omega) (by omega) (by omega))
  · rw [e1]; exact r2
  · rw [ex, hm _ (by decide) (by decide)]; exact s1
  · rw [ex] at q
    obtain ⟨n, p, q1, q2⟩ := s2 q
    rw [e3]
    exact ⟨n, p, pq_Rf q1 (pq_vn q2) (fun a a1 a2 => hf a (by omega) (by omega) (by omega) (by omega)), q2⟩
  · exact pq_Hf hH (Nat.le_refl _) (hf _ (by omega) (by omega) (by omega) (by omega)) (hm _ (by decide) (by decide)) (fun a a1 a2 => hf a (by omega) (by omega) (by omega) (by omega)) (hf _ (by omega) (by omega) (by omega) (by omega))
  · rw [et]; exact t1
  · rw [hm _ (by decide) (by decide)]; exact t2
  · rw [et3, e5]; exact t4 k hk
  · rw [ex, hm _ (by decide) (by decide)]; exact f1
  · rw [e29, hm _ (by decide) (by decide)]; exact w0
  · rw [e29, hm _ (by decide) (by decide)]; exact w1
  · rw [e29, hm _ (by decide) (by decide)]; exact w2
theorem pq_J0 {rf : rc_F} {σ : rc_S} {x Bd Ln : Nat} {cd : Int32} (h : pq_J rf σ x Bd Ln) : pq_J rf (rc_up σ (x + 308) 0 cd) x Bd Ln := by
  have h2 := h
  obtain ⟨-, -, -, -, -, -, L, o1, o2⟩ := h2
  refine pq_Jf h (fun a _ _ a3 _ => pq_upN a3) (fun j j1 _ => by rw [pq_upE, pq_udN j1]) ⟨L, ⟨?_, ?_, o1.2.2.1, fun k v hv => ?_⟩, ⟨?_, o2.2.1, fun k v hv => ?_⟩⟩
  · rw [pq_upN (by omega)]; exact o1.1
  · rw [pq_upN (by omega)]; exact o1.2.1
  · rw [pq_upN (by omega)]; exact o1.2.2.2 k v hv
  · rw [pq_upE, pq_udN (by decide)]; exact o2.1
  · rw [pq_upN (by omega)]; exact o2.2.2 k v hv
theorem pq_JV {rf : rc_F} {σ : rc_S} {x Bd Bd' Ln : Nat} (h : pq_J rf σ x Bd Ln) (hB : Bd ≤ Bd') : pq_J rf σ x Bd' Ln := by
  obtain ⟨⟨n, p, r1, r2⟩, ⟨s1, s2⟩, hH, h4⟩ := h
  exact ⟨⟨n, p, r1, pq_Vm r2 hB⟩, ⟨s1, fun q => by obtain ⟨n, p, q1, q2⟩ := s2 q; exact ⟨n, p, q1, pq_Vm q2 hB⟩⟩, pq_Hf hH hB rfl rfl (fun _ _ _ => rfl) rfl, h4⟩
/-- one call, both sides: the codes, the answers, and what holds afterwards -/
def pq_Z {α : Type} (rf : rc_F) (x Bd Ln Bd' Ln' : Nat) (A : rc_S → Option (Nat × α × rc_S)) (B : rc_S → Option (α × rc_S)) (P : Nat → Int32 → Prop) : Prop := ∀ σ, pq_J rf σ x Bd Ln → ∃ (k : Nat) (r : α) (σ1 : rc_S) (cd : Int32) (b : α) (σ2 : rc_S), A σ = some (k, r, σ1) ∧ B σ1 = some (b, σ2) ∧ P k cd ∧ σ2 (x + 308) 0 = cd ∧ (k = 0 → r = b) ∧ pq_J rf σ2 x Bd' Ln'
theorem pq_ZQ {α : Type} {rf : rc_F} {x Bd Ln : Nat} {A : rc_S → Option (Nat × α × rc_S)} {B : rc_S → Option (α × rc_S)} {P : Nat → Int32 → Prop} (h : ∀ σ, pq_J rf σ x Bd Ln → pq_Q (A σ) (B σ) σ (x + 308) P) : pq_Z rf x Bd Ln Bd Ln A B P := by
  intro σ hJ
  obtain ⟨k, r, cd, b, e1, e2, e3, e4⟩ := h σ hJ
  exact ⟨k, r, σ, cd, b, _, e1, e2, e3, by rw [pq_upE, pq_udE], e4, pq_J0 hJ⟩
theorem pq_ZW {rf : rc_F} {x Bd Ln : Nat} {A : rc_S → Option (Nat × Int32 × rc_S)} {B : rc_S → Option (Int32 × rc_S)} {P : Nat → Int32 → Prop} (h : ∀ σ, pq_J rf σ x Bd Ln → ∀ L, pq_OC σ x L → pq_OR σ (x + 308) L → pq_W (A σ) B σ x L P) : pq_Z rf x Bd Ln Bd Ln A B P := by
  intro σ hJ
  have h2 := hJ
  obtain ⟨-, -, -, -, -, -, L, o1, o2⟩ := h2
  obtain ⟨k, r, σ1, cd, b, σ2, L2, e1, e2, e3, e4, e5, f1, f2, f3, o3, o4⟩ := h σ hJ L o1 o2
  refine ⟨k, r, σ1, cd, b, σ2, e1, e2, e3, e4, e5, pq_Jf hJ (fun a a1 a2 a3 a4 => by rw [f2 a a3 a4, f1 a a1 a2]) (fun j j1 j2 => by rw [f3 j j1 j2, f1 _ (by omega) (by omega)]) ⟨L2, ?_, o4⟩⟩
  refine ⟨?_, ?_, o3.2.2.1, fun k v hv => ?_⟩
  · rw [f2 _ (by omega) (by omega)]; exact o3.1
  · rw [f2 _ (by omega) (by omega)]; exact o3.2.1
  · rw [f2 _ (by omega) (by omega)]; exact o3.2.2.2 k v hv
section PQC
variable {rf : rc_F} {σ : rc_S} {x : Nat} {L : List Nat}
theorem qs_v1 : ∀ v, v < 128 → ((Int32.ofNat v &&& (255 : Int32)).toUInt32 % 65536).toInt32 = Int32.ofNat v ∧ ((Int32.ofNat v).toUInt32 % 65536).toInt32 = Int32.ofNat v ∧ vp_nar .char (Int32.ofNat v) = Int32.ofNat v := by decide +kernel
theorem q_character (hX : pq_X rf x) (hOC : pq_OC σ x L) (hOR : pq_OR σ (x + 308) L) {u1 : Int32} : pq_Q (f_X8_character rf x u1 σ) (f_X9_character rf (x + 308) u1 σ) σ (x + 308) (fun k cd => (k = 0 ∧ cd = 0) ∨ (k = 2 ∧ cd = 1)) := by
  have hM := pq_xm hX
  have hl := hOC.2.2.1
  by_cases h1 : ¬ u1 < 0 ∧ ¬ Int32.ofNat L.length - 1 < u1
  · obtain ⟨k, hk, rfl⟩ : ∃ k, k < L.length ∧ u1 = Int32.ofNat k := by
      have hz : 0 ≤ Int32.ofNat L.length := Int32.zero_le_ofNat_of_lt (by omega)
      refine pq_nat h1.1 ?_ (by omega)
      exact Int32.not_le.mp (fun q => h1.2 ((pq_g1 _ _ hz).mpr q))
    obtain ⟨v, hv⟩ : ∃ v, L[k]? = some v := ⟨L[k], List.getElem?_eq_getElem hk⟩
    have c1 := hOC.2.2.2 k v hv
    have c2 := hOR.2.2 k v hv
    have c3 := qs_v1 v c1.1
    have n0 : ¬ Int32.ofNat k < 0 := h1.1
    have n1 : Int32.ofNat k < Int32.ofNat L.length := (pq_lt (by omega) (by omega)).mpr hk
    have n2 : (if (16 : Int32) >>> ((0 : Int32) &&& 31) < Int32.ofNat L.length then (16 : Int32) >>> ((0 : Int32) &&& 31) else Int32.ofNat L.length) = Int32.ofNat L.length := by
      rw [show (16 : Int32) >>> ((0 : Int32) &&& 31) = 16 from by decide, if_neg]
      intro q
      have := (pq_lt (n := 16) (by decide) (by omega)).mp q
      omega
    refine pq_QmE (Int32.ofNat v) (by simp) ?_ ?_
    · rw [f_X8_character, pq_x8 hX, qs_lng hOC, pq_bd, q8_out, pq_bd, if_pos h1, if_pos rfl, f_J4_charAt_5068e, f_J5_charAt_5068e, rc_lt, rc_lt, hOC.1, hOC.2.1, n2, f_J0_checkIndex_df160, f_J3_checkIndex_8e157, if_neg n0, if_pos n1, pq_bd, pq_bd, if_pos rfl, pq_in (by omega) (by decide), pq_ck, pq_b hX, pq_cl (by omega), c1.2, c3.1, c3.2.2, pq_cd rfl, pq_bd, c3.2.2, pq_cd rfl, pq_bd, c3.2.2, pq_cd rfl]
    · rw [f_X9_character, q9_in, hOR.1, if_pos h1, pq_bd, if_neg (by decide), rc_lt, pq_upE, pq_udE, if_pos (by decide), pq_in (by omega) (by decide), pq_ck, pq_m9 hM, pq_cl (by omega), pq_upN (by omega), c2, c3.2.1, c3.2.2, pq_cd rfl]
  · refine pq_Qm 2 1 (0 : Int32) 0 (by simp) (by simp) ?_ ?_
    · rw [f_X8_character, pq_x8 hX, qs_lng hOC, pq_bd, q8_out, pq_bd, if_neg h1, if_neg (by decide)]
    · rw [f_X9_character, q9_in, hOR.1, if_neg h1, pq_bd, if_pos rfl, rc_lt, pq_upE, pq_udE, if_neg (by decide)]
theorem q_append {Bd Ln : Nat} (hX : pq_X rf x) {u1 : Int32} (hu : vp_nar .char u1 = u1) : ∃ Ln', Ln' ≤ Ln + 1 ∧ pq_Z rf x Bd Ln Bd Ln' (f_X8_append rf x u1) (f_X9_append rf (x + 308) u1) (fun k cd => (k = 0 ∧ cd = 0) ∨ (k = 5 ∧ cd = 1)) := by
  have hM := pq_xm hX
  by_cases hl : Ln < 60
  · refine ⟨Ln + 1, Nat.le_refl _, fun σ hJ => ?_⟩
    have h2 := hJ
    obtain ⟨⟨n, p, r1, r2⟩, ⟨s1, s2⟩, hH, ⟨t1, t2, t3, t4⟩, f1, ⟨w0, w1, w2⟩, L, o1, o2⟩ := h2
    have c1 : Int32.ofNat Ln < 60 := (pq_lt (m := 60) (by omega) (by decide)).mpr hl
    have c2 : ¬ Int32.ofNat Ln = 60 := fun q => by have := (pq_eq (m := 60) (by omega) (by decide)).mp q; omega
    refine ⟨0, Int32.ofNat (Ln + 1), rc_up (rc_up σ (x + 303) Ln u1) (x + 302) 1 (Int32.ofNat (Ln + 1)), 0, Int32.ofNat (Ln + 1), rc_up (rc_up (rc_up (rc_up (rc_up σ (x + 303) Ln u1) (x + 302) 1 (Int32.ofNat (Ln + 1))) (x + 308) 0 0) (x + 308 + 5) Ln u1) (x + 308) 10 (Int32.ofNat (Ln + 1)), ?_, ?_, Or.inl ⟨rfl, rfl⟩, ?_, fun _ => rfl, ?_⟩
    · rw [f_X8_append, pq_x6 hX, t1, if_pos c1, f_X6_add, t1, pq_in (by omega) (by decide), pq_ck, pq_t0 hX, pq_cl (by omega), rc_lt, rc_lt, pq_upN (by omega), t1, hu, pq_s, pq_bd, pq_upE, pq_udE]
    · have q2 : (rc_up (rc_up σ (x + 303) Ln u1) (x + 302) 1 (Int32.ofNat (Ln + 1))) (x + 308) = σ (x + 308) := by rw [pq_upN (by omega), pq_upN (by omega)]
      rw [f_X9_append, q2, t2, if_neg c2, rc_lt, pq_upE, pq_udE, if_pos (by decide)]
      simp (disch := omega) only [pq_udN, pq_upN, pq_upE, pq_udE, t2, pq_in, pq_ck, pq_cl, pq_m7 hM, rc_lt, pq_s]
    · rw [pq_upE, pq_udN (by decide), pq_upN (by omega), pq_upE, pq_udE]
    · have k1 : ∀ a, a ≠ x + 302 → a ≠ x + 303 → a ≠ x + 308 → a ≠ x + 308 + 5 → (rc_up (rc_up (rc_up (rc_up (rc_up σ (x + 303) Ln u1) (x + 302) 1 (Int32.ofNat (Ln + 1))) (x + 308) 0 0) (x + 308 + 5) Ln u1) (x + 308) 10 (Int32.ofNat (Ln + 1))) a = σ a := fun a a1 a2 a3 a4 => by rw [pq_upN a3, pq_upN a4, pq_upN a3, pq_upN a1, pq_upN a2]
      have k2 : ∀ j, j ≠ 0 → j ≠ 10 → (rc_up (rc_up (rc_up (rc_up (rc_up σ (x + 303) Ln u1) (x + 302) 1 (Int32.ofNat (Ln + 1))) (x + 308) 0 0) (x + 308 + 5) Ln u1) (x + 308) 10 (Int32.ofNat (Ln + 1))) (x + 308) j = σ (x + 308) j := fun j j1 j2 => by rw [pq_upE, pq_udN j2, pq_upN (by omega), pq_upE, pq_udN j1, pq_upN (by omega), pq_upN (by omega)]
      have k3 : (rc_up (rc_up (rc_up (rc_up (rc_up σ (x + 303) Ln u1) (x + 302) 1 (Int32.ofNat (Ln + 1))) (x + 308) 0 0) (x + 308 + 5) Ln u1) (x + 308) 10 (Int32.ofNat (Ln + 1))) (x + 302) 1 = Int32.ofNat (Ln + 1) := by rw [pq_upN (by omega), pq_upN (by omega), pq_upN (by omega), pq_upE, pq_udE]
      have k4 : (rc_up (rc_up (rc_up (rc_up (rc_up σ (x + 303) Ln u1) (x + 302) 1 (Int32.ofNat (Ln + 1))) (x + 308) 0 0) (x + 308 + 5) Ln u1) (x + 308) 10 (Int32.ofNat (Ln + 1))) (x + 308) 10 = Int32.ofNat (Ln + 1) := by rw [pq_upE, pq_udE]
      have k5 : (rc_up (rc_up (rc_up (rc_up (rc_up σ (x + 303) Ln u1) (x + 302) 1 (Int32.ofNat (Ln + 1))) (x + 308) 0 0) (x + 308 + 5) Ln u1) (x + 308) 10 (Int32.ofNat (Ln + 1))) (x + 303) = upd (σ (x + 303)) Ln u1 := by rw [pq_upN (by omega), pq_upN (by omega), pq_upN (by omega), pq_upN (by omega), pq_upE]
      have k6 : (rc_up (rc_up (rc_up (rc_up (rc_up σ (x + 303) Ln u1) (x + 302) 1 (Int32.ofNat (Ln + 1))) (x + 308) 0 0) (x + 308 + 5) Ln u1) (x + 308) 10 (Int32.ofNat (Ln + 1))) (x + 308 + 5) = upd (σ (x + 308 + 5)) Ln u1 := by rw [pq_upN (by omega), pq_upE, pq_upN (by omega), pq_upN (by omega), pq_upN (by omega)]
      generalize rc_up (rc_up (rc_up (rc_up (rc_up σ (x + 303) Ln u1) (x + 302) 1 (Int32.ofNat (Ln + 1))) (x + 308) 0 0) (x + 308 + 5) Ln u1) (x + 308) 10 (Int32.ofNat (Ln + 1)) = τ at k1 k2 k3 k4 k5 k6
      have e1 : τ (x + 308 + 1) = σ (x + 308 + 1) := k1 _ (by omega) (by omega) (by omega) (by omega)
      have e3 : τ (x + 308 + 3) = σ (x + 308 + 3) := k1 _ (by omega) (by omega) (by omega) (by omega)
      have ex : τ x = σ x := k1 _ (by omega) (by omega) (by omega) (by omega)
      have e29 : τ (x + 29) = σ (x + 29) := k1 _ (by omega) (by omega) (by omega) (by omega)
      refine ⟨⟨n, p, ?_, ?_⟩, ⟨?_, fun q => ?_⟩, ?_, ⟨k3, k4, by omega, fun k hk => ?_⟩, ?_, ⟨?_, ?_, ?_⟩, L, ⟨?_, ?_, o1.2.2.1, fun k v hv => ?_⟩, ⟨?_, o2.2.1, fun k v hv => ?_⟩⟩
      · rw [e1]; exact pq_Rf r1 (pq_vn r2) (fun a a1 a2 => k1 a (by omega) (by omega) (by omega) (by omega))
      · rw [e1]; exact r2
      · rw [ex, k2 _ (by decide) (by decide)]; exact s1
      · rw [ex] at q
        obtain ⟨n, p, q1, q2⟩ := s2 q
        rw [e3]
        exact ⟨n, p, pq_Rf q1 (pq_vn q2) (fun a a1 a2 => k1 a (by omega) (by omega) (by omega) (by omega)), q2⟩
      · exact pq_Hf hH (Nat.le_refl _) (k1 _ (by omega) (by omega) (by omega) (by omega)) (k2 _ (by decide) (by decide)) (fun a a1 a2 => k1 a (by omega) (by omega) (by omega) (by omega)) (k1 _ (by omega) (by omega) (by omega) (by omega))
      · rw [k5, k6]
        by_cases hk2 : k = Ln
        · subst hk2; rw [pq_udE, pq_udE]; exact ⟨rfl, hu⟩
        · rw [pq_udN hk2, pq_udN hk2]; exact t4 k (by omega)
      · rw [ex, k2 _ (by decide) (by decide)]; exact f1
      · rw [e29, k2 _ (by decide) (by decide)]; exact w0
      · rw [e29, k2 _ (by decide) (by decide)]; exact w1
      · rw [e29, k2 _ (by decide) (by decide)]; exact w2
      · rw [k1 _ (by omega) (by omega) (by omega) (by omega)]; exact o1.1
      · rw [k1 _ (by omega) (by omega) (by omega) (by omega)]; exact o1.2.1
      · rw [k1 _ (by omega) (by omega) (by omega) (by omega)]; exact o1.2.2.2 k v hv
      · rw [k2 _ (by decide) (by decide)]; exact o2.1
      · rw [k1 _ (by omega) (by omega) (by omega) (by omega)]; exact o2.2.2 k v hv
  · refine ⟨Ln, by omega, pq_ZQ fun σ hJ => ?_⟩
    obtain ⟨-, -, -, ⟨t1, t2, t3, t4⟩, -⟩ := hJ
    have h60 : Ln = 60 := by omega
    subst h60
    refine pq_Qm 5 1 (0 : Int32) 0 (by simp) (by simp) ?_ ?_
    · rw [f_X8_append, pq_x6 hX, t1, if_neg (by decide)]
    · rw [f_X9_append, t2, if_pos (show Int32.ofNat 60 = 60 from rfl), rc_lt, pq_upE, pq_udE, if_neg (by decide)]
end PQC
