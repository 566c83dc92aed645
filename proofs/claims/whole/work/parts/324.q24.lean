section PQY
variable {rf : rc_F} {x Bd Ln : Nat}
theorem z_roofOf (hX : pq_X rf x) {u1 u2 : Int32} : pq_Z rf x Bd Ln Bd Ln (f_X8_roofOf rf x u1 u2) (f_X9_roofOf rf (x + 308) u1 u2) (fun k cd => (k = 0 ∧ cd = 0) ∨ (k = 2 ∧ cd = 1) ∨ (k = 3 ∧ cd = 2)) := pq_ZQ fun σ hJ => by
  obtain ⟨⟨n, p, r1, r2⟩, -, ⟨K, F, hK, hF, k1, k2, k3, kj⟩, ⟨t1, t2, t3, t4⟩, f1, ⟨w0, w1, w2⟩, -⟩ := hJ
  exact q_roofOf hX r1 r2 rfl
theorem z_barrelOf (hX : pq_X rf x) {u1 u2 : Int32} : pq_Z rf x Bd Ln Bd Ln (f_X8_barrelOf rf x u1 u2) (f_X9_barrelOf rf (x + 308) u1 u2) (fun k cd => (k = 0 ∧ cd = 0) ∨ (k = 2 ∧ cd = 1) ∨ (k = 3 ∧ cd = 2)) := pq_ZQ fun σ hJ => by
  obtain ⟨⟨n, p, r1, r2⟩, -, ⟨K, F, hK, hF, k1, k2, k3, kj⟩, ⟨t1, t2, t3, t4⟩, f1, ⟨w0, w1, w2⟩, -⟩ := hJ
  exact q_barrelOf hX r1 r2 rfl
theorem z_note (hX : pq_X rf x) {u1 : Int32} : pq_Z rf x Bd Ln Bd Ln (f_X8_note rf x u1) (f_X9_note rf (x + 308) u1) (fun k cd => (k = 0 ∧ cd = 0) ∨ (k = 2 ∧ cd = 1) ∨ (k = 4 ∧ cd = 2)) := pq_ZQ fun σ hJ => by
  obtain ⟨⟨n, p, r1, r2⟩, -, ⟨K, F, hK, hF, k1, k2, k3, kj⟩, ⟨t1, t2, t3, t4⟩, f1, ⟨w0, w1, w2⟩, -⟩ := hJ
  exact q_note hX r1 r2 rfl
theorem z_noteAgain (hX : pq_X rf x) (hN : Bd ≤ 90000) {u1 : Int32} : pq_Z rf x Bd Ln Bd Ln (f_X8_noteAgain rf x u1) (f_X9_noteAgain rf (x + 308) u1) (fun k cd => (k = 0 ∧ cd = 0) ∨ (k = 2 ∧ cd = 1) ∨ (k = 4 ∧ cd = 2)) := pq_ZQ fun σ hJ => by
  obtain ⟨⟨n, p, r1, r2⟩, -, ⟨K, F, hK, hF, k1, k2, k3, kj⟩, ⟨t1, t2, t3, t4⟩, f1, ⟨w0, w1, w2⟩, -⟩ := hJ
  exact q_noteAgain hX r1 r2 rfl hN
theorem z_noteIn (hX : pq_X rf x) {u1 u2 : Int32} : pq_Z rf x Bd Ln Bd Ln (f_X8_noteIn rf x u1 u2) (f_X9_noteIn rf (x + 308) u1 u2) (fun k cd => (k = 0 ∧ cd = 0) ∨ (k = 2 ∧ cd = 1) ∨ (k = 4 ∧ cd = 2) ∨ (k = 3 ∧ cd = 3)) := pq_ZQ fun σ hJ => by
  obtain ⟨⟨n, p, r1, r2⟩, -, ⟨K, F, hK, hF, k1, k2, k3, kj⟩, ⟨t1, t2, t3, t4⟩, f1, ⟨w0, w1, w2⟩, -⟩ := hJ
  exact q_noteIn hX r1 r2 rfl
theorem z_notices (hX : pq_X rf x) {u1 u2 : Int32} : pq_Z rf x Bd Ln Bd Ln (f_X8_notices rf x u1 u2) (f_X9_notices rf (x + 308) u1 u2) (fun k cd => (k = 0 ∧ cd = 0) ∨ (k = 2 ∧ cd = 1)) := pq_ZQ fun σ hJ => by
  obtain ⟨⟨n, p, r1, r2⟩, -, ⟨K, F, hK, hF, k1, k2, k3, kj⟩, ⟨t1, t2, t3, t4⟩, f1, ⟨w0, w1, w2⟩, -⟩ := hJ
  exact q_notices hX r1 r2 rfl
theorem z_noticing (hX : pq_X rf x) {u1 : Int32} : pq_Z rf x Bd Ln Bd Ln (f_X8_noticing rf x u1) (f_X9_noticing rf (x + 308) u1) (fun k cd => (k = 0 ∧ cd = 0) ∨ (k = 2 ∧ cd = 1)) := pq_ZQ fun σ hJ => by
  obtain ⟨⟨n, p, r1, r2⟩, -, ⟨K, F, hK, hF, k1, k2, k3, kj⟩, ⟨t1, t2, t3, t4⟩, f1, ⟨w0, w1, w2⟩, -⟩ := hJ
  exact q_noticing hX r1 r2 rfl
theorem z_hidden (hX : pq_X rf x) {u1 : Int32} : pq_Z rf x Bd Ln Bd Ln (f_X8_hidden rf x u1) (f_X9_hidden rf (x + 308) u1) (fun k cd => (k = 0 ∧ cd = 0) ∨ (k = 2 ∧ cd = 1) ∨ (k = 4 ∧ cd = 2)) := pq_ZQ fun σ hJ => by
  obtain ⟨⟨n, p, r1, r2⟩, -, ⟨K, F, hK, hF, k1, k2, k3, kj⟩, ⟨t1, t2, t3, t4⟩, f1, ⟨w0, w1, w2⟩, -⟩ := hJ
  exact q_hidden hX r1 r2 rfl
theorem z_hiddenAgain (hX : pq_X rf x) {u1 : Int32} : pq_Z rf x Bd Ln Bd Ln (f_X8_hiddenAgain rf x u1) (f_X9_hiddenAgain rf (x + 308) u1) (fun k cd => (k = 0 ∧ cd = 0) ∨ (k = 2 ∧ cd = 1) ∨ (k = 4 ∧ cd = 2)) := pq_ZQ fun σ hJ => by
  obtain ⟨⟨n, p, r1, r2⟩, -, ⟨K, F, hK, hF, k1, k2, k3, kj⟩, ⟨t1, t2, t3, t4⟩, f1, ⟨w0, w1, w2⟩, -⟩ := hJ
  exact q_hiddenAgain hX r1 r2 rfl
theorem z_wouldCatch (hX : pq_X rf x) {u1 : Int32} : pq_Z rf x Bd Ln Bd Ln (f_X8_wouldCatch rf x u1) (f_X9_wouldCatch rf (x + 308) u1) (fun k cd => (k = 0 ∧ cd = 0) ∨ (k = 3 ∧ cd = 1)) := pq_ZQ fun σ hJ => by
  obtain ⟨⟨n, p, r1, r2⟩, -, ⟨K, F, hK, hF, k1, k2, k3, kj⟩, ⟨t1, t2, t3, t4⟩, f1, ⟨w0, w1, w2⟩, -⟩ := hJ
  exact q_wouldCatch hX r1 r2 rfl
theorem z_wouldLose (hX : pq_X rf x) {u1 : Int32} : pq_Z rf x Bd Ln Bd Ln (f_X8_wouldLose rf x u1) (f_X9_wouldLose rf (x + 308) u1) (fun k cd => (k = 0 ∧ cd = 0) ∨ (k = 3 ∧ cd = 1)) := pq_ZQ fun σ hJ => by
  obtain ⟨⟨n, p, r1, r2⟩, -, ⟨K, F, hK, hF, k1, k2, k3, kj⟩, ⟨t1, t2, t3, t4⟩, f1, ⟨w0, w1, w2⟩, -⟩ := hJ
  exact q_wouldLose hX r1 r2 rfl
theorem z_vintage (hX : pq_X rf x) {u1 : Int32} : pq_Z rf x Bd Ln Bd Ln (f_X8_vintage rf x u1) (f_X9_vintage rf (x + 308) u1) (fun k cd => (k = 0 ∧ cd = 0) ∨ (k = 4 ∧ cd = 1)) := pq_ZQ fun σ hJ => by
  obtain ⟨⟨n, p, r1, r2⟩, -, ⟨K, F, hK, hF, k1, k2, k3, kj⟩, ⟨t1, t2, t3, t4⟩, f1, ⟨w0, w1, w2⟩, -⟩ := hJ
  exact q_vintage hX r1 r2 rfl
theorem z_stormOf (hX : pq_X rf x) {u1 u2 : Int32} : pq_Z rf x Bd Ln Bd Ln (f_X8_stormOf rf x u1 u2) (f_X9_stormOf rf (x + 308) u1 u2) (fun k cd => (k = 0 ∧ cd = 0) ∨ (k = 4 ∧ cd = 1) ∨ (k = 3 ∧ cd = 2)) := pq_ZQ fun σ hJ => by
  obtain ⟨⟨n, p, r1, r2⟩, -, ⟨K, F, hK, hF, k1, k2, k3, kj⟩, ⟨t1, t2, t3, t4⟩, f1, ⟨w0, w1, w2⟩, -⟩ := hJ
  exact q_stormOf hX r1 r2 rfl
theorem z_canPour (hX : pq_X rf x) {u1 u2 : Int32} : pq_Z rf x Bd Ln Bd Ln (f_X8_canPour rf x u1 u2) (f_X9_canPour rf (x + 308) u1 u2) (fun k cd => (k = 0 ∧ cd = 0) ∨ (k = 2 ∧ cd = 1)) := pq_ZQ fun σ hJ => by
  obtain ⟨⟨n, p, r1, r2⟩, -, ⟨K, F, hK, hF, k1, k2, k3, kj⟩, ⟨t1, t2, t3, t4⟩, f1, ⟨w0, w1, w2⟩, -⟩ := hJ
  exact q_canPour hX r1 r2 rfl
theorem z_ranked (hX : pq_X rf x) {u1 u2 : Int32} : pq_Z rf x Bd Ln Bd Ln (f_X8_ranked rf x u1 u2) (f_X9_ranked rf (x + 308) u1 u2) (fun k cd => (k = 0 ∧ cd = 0) ∨ (k = 3 ∧ cd = 1) ∨ (k = 4 ∧ cd = 2)) := pq_ZQ fun σ hJ => by
  obtain ⟨⟨n, p, r1, r2⟩, -, ⟨K, F, hK, hF, k1, k2, k3, kj⟩, ⟨t1, t2, t3, t4⟩, f1, ⟨w0, w1, w2⟩, -⟩ := hJ
  exact q_ranked hX r1 r2 rfl
theorem z_reason (hX : pq_X rf x) {u1 : Int32} : pq_Z rf x Bd Ln Bd Ln (f_X8_reason rf x u1) (f_X9_reason rf (x + 308) u1) (fun k cd => (k = 0 ∧ cd = 0) ∨ (k = 3 ∧ cd = 1) ∨ (k = 4 ∧ cd = 2)) := pq_ZQ fun σ hJ => by
  obtain ⟨⟨n, p, r1, r2⟩, -, ⟨K, F, hK, hF, k1, k2, k3, kj⟩, ⟨t1, t2, t3, t4⟩, f1, ⟨w0, w1, w2⟩, -⟩ := hJ
  exact q_reason hX r1 r2 rfl w0 w1 w2
theorem z_account (hX : pq_X rf x) {u1 : Int32} : pq_Z rf x Bd Ln Bd Ln (f_X8_account rf x u1) (f_X9_account rf (x + 308) u1) (fun k cd => (k = 0 ∧ cd = 0) ∨ (k = 3 ∧ cd = 1)) := pq_ZQ fun σ hJ => by
  obtain ⟨⟨n, p, r1, r2⟩, -, ⟨K, F, hK, hF, k1, k2, k3, kj⟩, ⟨t1, t2, t3, t4⟩, f1, ⟨w0, w1, w2⟩, -⟩ := hJ
  exact q_account hX r1 r2 rfl (k1.trans k2.symm) (t1.trans t2.symm)
theorem z_meanNote (hX : pq_X rf x) (hN : Bd ≤ 90000) : pq_Z rf x Bd Ln Bd Ln (f_X8_meanNote rf x ) (f_X9_meanNote rf (x + 308) ) (fun k cd => (k = 0 ∧ cd = 0) ∨ (k = 6 ∧ cd = 1)) := pq_ZQ fun σ hJ => by
  obtain ⟨⟨n, p, r1, r2⟩, -, ⟨K, F, hK, hF, k1, k2, k3, kj⟩, ⟨t1, t2, t3, t4⟩, f1, ⟨w0, w1, w2⟩, -⟩ := hJ
  exact q_meanNote hX r1 r2 rfl hN
theorem z_character (hX : pq_X rf x) {u1 : Int32} : pq_Z rf x Bd Ln Bd Ln (f_X8_character rf x u1) (f_X9_character rf (x + 308) u1) (fun k cd => (k = 0 ∧ cd = 0) ∨ (k = 2 ∧ cd = 1)) := pq_ZQ fun σ hJ => by
  obtain ⟨-, -, -, -, -, -, L, o1, o2⟩ := hJ
  exact q_character hX o1 o2
theorem z_line (hX : pq_X rf x) (hN : Bd ≤ 999) {u1 : Int32} : pq_Z rf x Bd Ln Bd Ln (f_X8_line rf x u1) (f_X9_line rf (x + 308) u1) (fun k cd => (k = 0 ∧ cd = 0) ∨ (k = 2 ∧ cd = 1)) := pq_ZW fun σ hJ L o1 o2 => by
  obtain ⟨⟨n, p, r1, r2⟩, -⟩ := hJ
  exact q_line hX r1 r2 rfl hN o1 o2
theorem z_hailShare (hX : pq_X rf x) (σ : rc_S) (hJ : pq_J rf σ x Bd Ln) : ∃ (k : Nat) (r : UInt32) (cd : Int32) (b : UInt32) (σ2 : rc_S), f_X8_hailShare rf x σ = some (k, r, σ) ∧ f_X9_hailShare rf (x + 308) σ = some (b, σ2) ∧ ((k = 0 ∧ cd = 0) ∨ (k = 6 ∧ cd = 1)) ∧ σ2 (x + 308) 0 = cd ∧ (k = 0 → r = b) ∧ (k = 0 → vf_n64 (FP.f2d r)) ∧ pq_J rf σ2 x Bd Ln := by
  have h2 := hJ
  obtain ⟨⟨n, p, r1, r2⟩, -⟩ := h2
  obtain ⟨k, r, cd, b, e1, e2, e3, e4, e5⟩ := q_hailShare hX r1 r2 rfl
  exact ⟨k, r, cd, b, _, e1, e2, e3, by rw [pq_upE, pq_udE], e4, e5, pq_J0 hJ⟩
theorem pq_ZQ2 {α : Type} {A B : rc_S → Option (α × rc_S)} (h : ∀ σ, pq_J rf σ x Bd Ln → pq_Q2 (A σ) (B σ) σ (x + 308)) : pq_Z2 rf x Bd Ln Bd Ln A B := fun σ hJ => by
  obtain ⟨v, e1, e2⟩ := h σ hJ
  exact ⟨v, σ, _, e1, e2, pq_J0 hJ⟩
theorem z_isEven (hX : pq_X rf x) : pq_Z2 rf x Bd Ln Bd Ln (f_X8_isEven rf x) (f_X9_isEven rf (x + 308)) := pq_ZQ2 fun σ hJ => by
  obtain ⟨⟨n, p, r1, r2⟩, -⟩ := hJ
  exact q_isEven hX r1 r2 rfl
theorem z_faultPosition : pq_Z2 rf x Bd Ln Bd Ln (f_X8_faultPosition rf x) (f_X9_faultPosition rf (x + 308)) := pq_ZQ2 fun σ hJ => by
  obtain ⟨-, -, -, -, f1, -⟩ := hJ
  exact q_faultPosition f1
theorem z_panel (hX : pq_X rf x) : pq_Z2 rf x Bd Ln Bd Ln (f_X8_panel rf x) (f_X9_panel rf (x + 308)) := fun σ hJ => by
  have h2 := hJ
  obtain ⟨⟨n, p, r1, r2⟩, -, -, -, -, -, L, o1, o2⟩ := h2
  obtain ⟨r, σ1, σ2, L2, e1, e2, f1, f2, f3, q1, q2⟩ := q_panel hX r1 r2 rfl o1
  refine ⟨r, σ1, σ2, e1, e2, pq_Jf hJ (fun a a1 a2 a3 a4 => by rw [f2 a a3 a4, f1 a a1 a2]) (fun j j1 j2 => by rw [f3 j j1 j2, f1 _ (by omega) (by omega)]) ⟨L2, ⟨?_, ?_, q1.2.2.1, fun k v hv => ?_⟩, q2⟩⟩
  · rw [f2 _ (by omega) (by omega)]; exact q1.1
  · rw [f2 _ (by omega) (by omega)]; exact q1.2.1
  · rw [f2 _ (by omega) (by omega)]; exact q1.2.2.2 k v hv
end PQY
/-- what holds after N calls -/
def pq_I (rf : rc_F) (σ : rc_S) (x N : Nat) : Prop := ∃ Bd Ln, Bd + Ln ≤ N ∧ pq_J rf σ x Bd Ln
section PQI
variable {rf : rc_F} {x N : Nat} {σ : rc_S}
/-- a call, from N calls to one more -/
theorem pq_IZ {α : Type} {A : rc_S → Option (Nat × α × rc_S)} {B : rc_S → Option (α × rc_S)} {P : Nat → Int32 → Prop} (hI : pq_I rf σ x N) (h : ∀ Bd Ln, Bd + Ln ≤ N → ∃ Bd' Ln', Bd' + Ln' ≤ Bd + Ln + 1 ∧ pq_Z rf x Bd Ln Bd' Ln' A B P) : ∃ (k : Nat) (r : α) (σ1 : rc_S) (cd : Int32) (b : α) (σ2 : rc_S), A σ = some (k, r, σ1) ∧ B σ1 = some (b, σ2) ∧ P k cd ∧ σ2 (x + 308) 0 = cd ∧ (k = 0 → r = b) ∧ pq_I rf σ2 x (N + 1) := by
  obtain ⟨Bd, Ln, hN, hJ⟩ := hI
  obtain ⟨Bd', Ln', hB, hZ⟩ := h Bd Ln hN
  obtain ⟨k, r, σ1, cd, b, σ2, e1, e2, e3, e4, e5, e6⟩ := hZ σ hJ
  exact ⟨k, r, σ1, cd, b, σ2, e1, e2, e3, e4, e5, Bd', Ln', by omega, e6⟩
theorem pq_IZ2 {α : Type} {A B : rc_S → Option (α × rc_S)} (hI : pq_I rf σ x N) (h : ∀ Bd Ln, Bd + Ln ≤ N → ∃ Bd' Ln', Bd' + Ln' ≤ Bd + Ln + 1 ∧ pq_Z2 rf x Bd Ln Bd' Ln' A B) : ∃ (r : α) (σ1 σ2 : rc_S), A σ = some (r, σ1) ∧ B σ1 = some (r, σ2) ∧ pq_I rf σ2 x (N + 1) := by
  obtain ⟨Bd, Ln, hN, hJ⟩ := hI
  obtain ⟨Bd', Ln', hB, hZ⟩ := h Bd Ln hN
  obtain ⟨r, σ1, σ2, e1, e2, e6⟩ := hZ σ hJ
  exact ⟨r, σ1, σ2, e1, e2, Bd', Ln', by omega, e6⟩
theorem i_roofOf (hX : pq_X rf x) (hN : N ≤ 900) (u1 u2 : Int32) (hI : pq_I rf σ x N) : ∃ (k : Nat) (r : Int32) (σ1 : rc_S) (cd : Int32) (b : Int32) (σ2 : rc_S), f_X8_roofOf rf x u1 u2 σ = some (k, r, σ1) ∧ f_X9_roofOf rf (x + 308) u1 u2 σ1 = some (b, σ2) ∧ ((k = 0 ∧ cd = 0) ∨ (k = 2 ∧ cd = 1) ∨ (k = 3 ∧ cd = 2)) ∧ σ2 (x + 308) 0 = cd ∧ (k = 0 → r = b) ∧ pq_I rf σ2 x (N + 1) := pq_IZ hI fun Bd Ln h => ⟨Bd, Ln, by omega, z_roofOf hX⟩
theorem i_barrelOf (hX : pq_X rf x) (hN : N ≤ 900) (u1 u2 : Int32) (hI : pq_I rf σ x N) : ∃ (k : Nat) (r : Int32) (σ1 : rc_S) (cd : Int32) (b : Int32) (σ2 : rc_S), f_X8_barrelOf rf x u1 u2 σ = some (k, r, σ1) ∧ f_X9_barrelOf rf (x + 308) u1 u2 σ1 = some (b, σ2) ∧ ((k = 0 ∧ cd = 0) ∨ (k = 2 ∧ cd = 1) ∨ (k = 3 ∧ cd = 2)) ∧ σ2 (x + 308) 0 = cd ∧ (k = 0 → r = b) ∧ pq_I rf σ2 x (N + 1) := pq_IZ hI fun Bd Ln h => ⟨Bd, Ln, by omega, z_barrelOf hX⟩
theorem i_note (hX : pq_X rf x) (hN : N ≤ 900) (u1 : Int32) (hI : pq_I rf σ x N) : ∃ (k : Nat) (r : Int32) (σ1 : rc_S) (cd : Int32) (b : Int32) (σ2 : rc_S), f_X8_note rf x u1 σ = some (k, r, σ1) ∧ f_X9_note rf (x + 308) u1 σ1 = some (b, σ2) ∧ ((k = 0 ∧ cd = 0) ∨ (k = 2 ∧ cd = 1) ∨ (k = 4 ∧ cd = 2)) ∧ σ2 (x + 308) 0 = cd ∧ (k = 0 → r = b) ∧ pq_I rf σ2 x (N + 1) := pq_IZ hI fun Bd Ln h => ⟨Bd, Ln, by omega, z_note hX⟩
theorem i_noteAgain (hX : pq_X rf x) (hN : N ≤ 900) (u1 : Int32) (hI : pq_I rf σ x N) : ∃ (k : Nat) (r : Int32) (σ1 : rc_S) (cd : Int32) (b : Int32) (σ2 : rc_S), f_X8_noteAgain rf x u1 σ = some (k, r, σ1) ∧ f_X9_noteAgain rf (x + 308) u1 σ1 = some (b, σ2) ∧ ((k = 0 ∧ cd = 0) ∨ (k = 2 ∧ cd = 1) ∨ (k = 4 ∧ cd = 2)) ∧ σ2 (x + 308) 0 = cd ∧ (k = 0 → r = b) ∧ pq_I rf σ2 x (N + 1) := pq_IZ hI fun Bd Ln h => ⟨Bd, Ln, by omega, z_noteAgain hX (by omega)⟩
theorem i_noteIn (hX : pq_X rf x) (hN : N ≤ 900) (u1 u2 : Int32) (hI : pq_I rf σ x N) : ∃ (k : Nat) (r : Int32) (σ1 : rc_S) (cd : Int32) (b : Int32) (σ2 : rc_S), f_X8_noteIn rf x u1 u2 σ = some (k, r, σ1) ∧ f_X9_noteIn rf (x + 308) u1 u2 σ1 = some (b, σ2) ∧ ((k = 0 ∧ cd = 0) ∨ (k = 2 ∧ cd = 1) ∨ (k = 4 ∧ cd = 2) ∨ (k = 3 ∧ cd = 3)) ∧ σ2 (x + 308) 0 = cd ∧ (k = 0 → r = b) ∧ pq_I rf σ2 x (N + 1) := pq_IZ hI fun Bd Ln h => ⟨Bd, Ln, by omega, z_noteIn hX⟩
theorem i_notices (hX : pq_X rf x) (hN : N ≤ 900) (u1 u2 : Int32) (hI : pq_I rf σ x N) : ∃ (k : Nat) (r : Int32) (σ1 : rc_S) (cd : Int32) (b : Int32) (σ2 : rc_S), f_X8_notices rf x u1 u2 σ = some (k, r, σ1) ∧ f_X9_notices rf (x + 308) u1 u2 σ1 = some (b, σ2) ∧ ((k = 0 ∧ cd = 0) ∨ (k = 2 ∧ cd = 1)) ∧ σ2 (x + 308) 0 = cd ∧ (k = 0 → r = b) ∧ pq_I rf σ2 x (N + 1) := pq_IZ hI fun Bd Ln h => ⟨Bd, Ln, by omega, z_notices hX⟩
theorem i_noticing (hX : pq_X rf x) (hN : N ≤ 900) (u1 : Int32) (hI : pq_I rf σ x N) : ∃ (k : Nat) (r : Int32) (σ1 : rc_S) (cd : Int32) (b : Int32) (σ2 : rc_S), f_X8_noticing rf x u1 σ = some (k, r, σ1) ∧ f_X9_noticing rf (x + 308) u1 σ1 = some (b, σ2) ∧ ((k = 0 ∧ cd = 0) ∨ (k = 2 ∧ cd = 1)) ∧ σ2 (x + 308) 0 = cd ∧ (k = 0 → r = b) ∧ pq_I rf σ2 x (N + 1) := pq_IZ hI fun Bd Ln h => ⟨Bd, Ln, by omega, z_noticing hX⟩
theorem i_hidden (hX : pq_X rf x) (hN : N ≤ 900) (u1 : Int32) (hI : pq_I rf σ x N) : ∃ (k : Nat) (r : Int32) (σ1 : rc_S) (cd : Int32) (b : Int32) (σ2 : rc_S), f_X8_hidden rf x u1 σ = some (k, r, σ1) ∧ f_X9_hidden rf (x + 308) u1 σ1 = some (b, σ2) ∧ ((k = 0 ∧ cd = 0) ∨ (k = 2 ∧ cd = 1) ∨ (k = 4 ∧ cd = 2)) ∧ σ2 (x + 308) 0 = cd ∧ (k = 0 → r = b) ∧ pq_I rf σ2 x (N + 1) := pq_IZ hI fun Bd Ln h => ⟨Bd, Ln, by omega, z_hidden hX⟩
theorem i_hiddenAgain (hX : pq_X rf x) (hN : N ≤ 900) (u1 : Int32) (hI : pq_I rf σ x N) : ∃ (k : Nat) (r : Int32) (σ1 : rc_S) (cd : Int32) (b : Int32) (σ2 : rc_S), f_X8_hiddenAgain rf x u1 σ = some (k, r, σ1) ∧ f_X9_hiddenAgain rf (x + 308) u1 σ1 = some (b, σ2) ∧ ((k = 0 ∧ cd = 0) ∨ (k = 2 ∧ cd = 1) ∨ (k = 4 ∧ cd = 2)) ∧ σ2 (x + 308) 0 = cd ∧ (k = 0 → r = b) ∧ pq_I rf σ2 x (N + 1) := pq_IZ hI fun Bd Ln h => ⟨Bd, Ln, by omega, z_hiddenAgain hX⟩
theorem i_wouldCatch (hX : pq_X rf x) (hN : N ≤ 900) (u1 : Int32) (hI : pq_I rf σ x N) : ∃ (k : Nat) (r : Int32) (σ1 : rc_S) (cd : Int32) (b : Int32) (σ2 : rc_S), f_X8_wouldCatch rf x u1 σ = some (k, r, σ1) ∧ f_X9_wouldCatch rf (x + 308) u1 σ1 = some (b, σ2) ∧ ((k = 0 ∧ cd = 0) ∨ (k = 3 ∧ cd = 1)) ∧ σ2 (x + 308) 0 = cd ∧ (k = 0 → r = b) ∧ pq_I rf σ2 x (N + 1) := pq_IZ hI fun Bd Ln h => ⟨Bd, Ln, by omega, z_wouldCatch hX⟩
theorem i_wouldLose (hX : pq_X rf x) (hN : N ≤ 900) (u1 : Int32) (hI : pq_I rf σ x N) : ∃ (k : Nat) (r : Int32) (σ1 : rc_S) (cd : Int32) (b : Int32) (σ2 : rc_S), f_X8_wouldLose rf x u1 σ = some (k, r, σ1) ∧ f_X9_wouldLose rf (x + 308) u1 σ1 = some (b, σ2) ∧ ((k = 0 ∧ cd = 0) ∨ (k = 3 ∧ cd = 1)) ∧ σ2 (x + 308) 0 = cd ∧ (k = 0 → r = b) ∧ pq_I rf σ2 x (N + 1) := pq_IZ hI fun Bd Ln h => ⟨Bd, Ln, by omega, z_wouldLose hX⟩
theorem i_vintage (hX : pq_X rf x) (hN : N ≤ 900) (u1 : Int32) (hI : pq_I rf σ x N) : ∃ (k : Nat) (r : Int32) (σ1 : rc_S) (cd : Int32) (b : Int32) (σ2 : rc_S), f_X8_vintage rf x u1 σ = some (k, r, σ1) ∧ f_X9_vintage rf (x + 308) u1 σ1 = some (b, σ2) ∧ ((k = 0 ∧ cd = 0) ∨ (k = 4 ∧ cd = 1)) ∧ σ2 (x + 308) 0 = cd ∧ (k = 0 → r = b) ∧ pq_I rf σ2 x (N + 1) := pq_IZ hI fun Bd Ln h => ⟨Bd, Ln, by omega, z_vintage hX⟩
theorem i_stormOf (hX : pq_X rf x) (hN : N ≤ 900) (u1 u2 : Int32) (hI : pq_I rf σ x N) : ∃ (k : Nat) (r : Int32) (σ1 : rc_S) (cd : Int32) (b : Int32) (σ2 : rc_S), f_X8_stormOf rf x u1 u2 σ = some (k, r, σ1) ∧ f_X9_stormOf rf (x + 308) u1 u2 σ1 = some (b, σ2) ∧ ((k = 0 ∧ cd = 0) ∨ (k = 4 ∧ cd = 1) ∨ (k = 3 ∧ cd = 2)) ∧ σ2 (x + 308) 0 = cd ∧ (k = 0 → r = b) ∧ pq_I rf σ2 x (N + 1) := pq_IZ hI fun Bd Ln h => ⟨Bd, Ln, by omega, z_stormOf hX⟩
theorem i_canPour (hX : pq_X rf x) (hN : N ≤ 900) (u1 u2 : Int32) (hI : pq_I rf σ x N) : ∃ (k : Nat) (r : Int32) (σ1 : rc_S) (cd : Int32) (b : Int32) (σ2 : rc_S), f_X8_canPour rf x u1 u2 σ = some (k, r, σ1) ∧ f_X9_canPour rf (x + 308) u1 u2 σ1 = some (b, σ2) ∧ ((k = 0 ∧ cd = 0) ∨ (k = 2 ∧ cd = 1)) ∧ σ2 (x + 308) 0 = cd ∧ (k = 0 → r = b) ∧ pq_I rf σ2 x (N + 1) := pq_IZ hI fun Bd Ln h => ⟨Bd, Ln, by omega, z_canPour hX⟩
theorem i_ranked (hX : pq_X rf x) (hN : N ≤ 900) (u1 u2 : Int32) (hI : pq_I rf σ x N) : ∃ (k : Nat) (r : Int32) (σ1 : rc_S) (cd : Int32) (b : Int32) (σ2 : rc_S), f_X8_ranked rf x u1 u2 σ = some (k, r, σ1) ∧ f_X9_ranked rf (x + 308) u1 u2 σ1 = some (b, σ2) ∧ ((k = 0 ∧ cd = 0) ∨ (k = 3 ∧ cd = 1) ∨ (k = 4 ∧ cd = 2)) ∧ σ2 (x + 308) 0 = cd ∧ (k = 0 → r = b) ∧ pq_I rf σ2 x (N + 1) := pq_IZ hI fun Bd Ln h => ⟨Bd, Ln, by omega, z_ranked hX⟩
theorem i_reason (hX : pq_X rf x) (hN : N ≤ 900) (u1 : Int32) (hI : pq_I rf σ x N) : ∃ (k : Nat) (r : Int32) (σ1 : rc_S) (cd : Int32) (b : Int32) (σ2 : rc_S), f_X8_reason rf x u1 σ = some (k, r, σ1) ∧ f_X9_reason rf (x + 308) u1 σ1 = some (b, σ2) ∧ ((k = 0 ∧ cd = 0) ∨ (k = 3 ∧ cd = 1) ∨ (k = 4 ∧ cd = 2)) ∧ σ2 (x + 308) 0 = cd ∧ (k = 0 → r = b) ∧ pq_I rf σ2 x (N + 1) := pq_IZ hI fun Bd Ln h => ⟨Bd, Ln, by omega, z_reason hX⟩
theorem i_account (hX : pq_X rf x) (hN : N ≤ 900) (u1 : Int32) (hI : pq_I rf σ x N) : ∃ (k : Nat) (r : Int32) (σ1 : rc_S) (cd : Int32) (b : Int32) (σ2 : rc_S), f_X8_account rf x u1 σ = some (k, r, σ1) ∧ f_X9_account rf (x + 308) u1 σ1 = some (b, σ2) ∧ ((k = 0 ∧ cd = 0) ∨ (k = 3 ∧ cd = 1)) ∧ σ2 (x + 308) 0 = cd ∧ (k = 0 → r = b) ∧ pq_I rf σ2 x (N + 1) := pq_IZ hI fun Bd Ln h => ⟨Bd, Ln, by omega, z_account hX⟩
theorem i_meanNote (hX : pq_X rf x) (hN : N ≤ 900) (hI : pq_I rf σ x N) : ∃ (k : Nat) (r : UInt64) (σ1 : rc_S) (cd : Int32) (b : UInt64) (σ2 : rc_S), f_X8_meanNote rf x  σ = some (k, r, σ1) ∧ f_X9_meanNote rf (x + 308)  σ1 = some (b, σ2) ∧ ((k = 0 ∧ cd = 0) ∨ (k = 6 ∧ cd = 1)) ∧ σ2 (x + 308) 0 = cd ∧ (k = 0 → r = b) ∧ pq_I rf σ2 x (N + 1) := pq_IZ hI fun Bd Ln h => ⟨Bd, Ln, by omega, z_meanNote hX (by omega)⟩
theorem i_character (hX : pq_X rf x) (hN : N ≤ 900) (u1 : Int32) (hI : pq_I rf σ x N) : ∃ (k : Nat) (r : Int32) (σ1 : rc_S) (cd : Int32) (b : Int32) (σ2 : rc_S), f_X8_character rf x u1 σ = some (k, r, σ1) ∧ f_X9_character rf (x + 308) u1 σ1 = some (b, σ2) ∧ ((k = 0 ∧ cd = 0) ∨ (k = 2 ∧ cd = 1)) ∧ σ2 (x + 308) 0 = cd ∧ (k = 0 → r = b) ∧ pq_I rf σ2 x (N + 1) := pq_IZ hI fun Bd Ln h => ⟨Bd, Ln, by omega, z_character hX⟩
theorem i_line (hX : pq_X rf x) (hN : N ≤ 900) (u1 : Int32) (hI : pq_I rf σ x N) : ∃ (k : Nat) (r : Int32) (σ1 : rc_S) (cd : Int32) (b : Int32) (σ2 : rc_S), f_X8_line rf x u1 σ = some (k, r, σ1) ∧ f_X9_line rf (x + 308) u1 σ1 = some (b, σ2) ∧ ((k = 0 ∧ cd = 0) ∨ (k = 2 ∧ cd = 1)) ∧ σ2 (x + 308) 0 = cd ∧ (k = 0 → r = b) ∧ pq_I rf σ2 x (N + 1) := pq_IZ hI fun Bd Ln h => ⟨Bd, Ln, by omega, z_line hX (by omega)⟩
theorem i_storm (hX : pq_X rf x) (hN : N ≤ 900) (u1 u2 : Int32) (hI : pq_I rf σ x N) : ∃ (k : Nat) (r : Int32) (σ1 : rc_S) (cd : Int32) (b : Int32) (σ2 : rc_S), f_X8_storm rf x u1 u2 σ = some (k, r, σ1) ∧ f_X9_storm rf (x + 308) u1 u2 σ1 = some (b, σ2) ∧ ((k = 0 ∧ cd = 0) ∨ (k = 1 ∧ cd = 1)) ∧ σ2 (x + 308) 0 = cd ∧ (k = 0 → r = b) ∧ pq_I rf σ2 x (N + 1) := pq_IZ hI fun Bd Ln h => ⟨Bd + 1, Ln, by omega, q_storm hX (by omega)⟩
theorem i_barrel (hX : pq_X rf x) (hN : N ≤ 900) (u1 : Int32) (hI : pq_I rf σ x N) : ∃ (k : Nat) (r : Int32) (σ1 : rc_S) (cd : Int32) (b : Int32) (σ2 : rc_S), f_X8_barrel rf x u1 σ = some (k, r, σ1) ∧ f_X9_barrel rf (x + 308) u1 σ1 = some (b, σ2) ∧ ((k = 0 ∧ cd = 0) ∨ (k = 1 ∧ cd = 1)) ∧ σ2 (x + 308) 0 = cd ∧ (k = 0 → r = b) ∧ pq_I rf σ2 x (N + 1) := pq_IZ hI fun Bd Ln h => ⟨Bd + 1, Ln, by omega, q_barrel hX (by omega)⟩
theorem i_takeAway (hX : pq_X rf x) (hN : N ≤ 900) (u1 : Int32) (hI : pq_I rf σ x N) : ∃ (k : Nat) (r : Int32) (σ1 : rc_S) (cd : Int32) (b : Int32) (σ2 : rc_S), f_X8_takeAway rf x u1 σ = some (k, r, σ1) ∧ f_X9_takeAway rf (x + 308) u1 σ1 = some (b, σ2) ∧ ((k = 0 ∧ cd = 0) ∨ (k = 1 ∧ cd = 1)) ∧ σ2 (x + 308) 0 = cd ∧ (k = 0 → r = b) ∧ pq_I rf σ2 x (N + 1) := pq_IZ hI fun Bd Ln h => ⟨Bd + 1, Ln, by omega, q_takeAway hX (by omega)⟩
theorem i_pour (hX : pq_X rf x) (hN : N ≤ 900) (u1 u2 u3 : Int32) (hI : pq_I rf σ x N) : ∃ (k : Nat) (r : Int32) (σ1 : rc_S) (cd : Int32) (b : Int32) (σ2 : rc_S), f_X8_pour rf x u1 u2 u3 σ = some (k, r, σ1) ∧ f_X9_pour rf (x + 308) u1 u2 u3 σ1 = some (b, σ2) ∧ ((k = 0 ∧ cd = 0) ∨ (k = 1 ∧ cd = 1)) ∧ σ2 (x + 308) 0 = cd ∧ (k = 0 → r = b) ∧ pq_I rf σ2 x (N + 1) := pq_IZ hI fun Bd Ln h => ⟨Bd + 1, Ln, by omega, q_pour hX (by omega)⟩
theorem i_hail (hX : pq_X rf x) (hN : N ≤ 900) (u1 u2 : Int32) (hI : pq_I rf σ x N) : ∃ (k : Nat) (r : Int32) (σ1 : rc_S) (cd : Int32) (b : Int32) (σ2 : rc_S), f_X8_hail rf x u1 u2 σ = some (k, r, σ1) ∧ f_X9_hail rf (x + 308) u1 u2 σ1 = some (b, σ2) ∧ ((k = 0 ∧ cd = 0) ∨ (k = 1 ∧ cd = 1)) ∧ σ2 (x + 308) 0 = cd ∧ (k = 0 → r = b) ∧ pq_I rf σ2 x (N + 1) := pq_IZ hI fun Bd Ln h => ⟨Bd + 1, Ln, by omega, q_hail hX (by omega)⟩
theorem i_leave (hX : pq_X rf x) (hN : N ≤ 900) (u1 : Int32) (hI : pq_I rf σ x N) : ∃ (k : Nat) (r : Int32) (σ1 : rc_S) (cd : Int32) (b : Int32) (σ2 : rc_S), f_X8_leave rf x u1 σ = some (k, r, σ1) ∧ f_X9_leave rf (x + 308) u1 σ1 = some (b, σ2) ∧ ((k = 0 ∧ cd = 0) ∨ (k = 1 ∧ cd = 1)) ∧ σ2 (x + 308) 0 = cd ∧ (k = 0 → r = b) ∧ pq_I rf σ2 x (N + 1) := pq_IZ hI fun Bd Ln h => ⟨Bd + 1, Ln, by omega, q_leave hX (by omega)⟩
theorem i_drink (hX : pq_X rf x) (hN : N ≤ 900) (u1 : Int32) (hI : pq_I rf σ x N) : ∃ (k : Nat) (r : Int32) (σ1 : rc_S) (cd : Int32) (b : Int32) (σ2 : rc_S), f_X8_drink rf x u1 σ = some (k, r, σ1) ∧ f_X9_drink rf (x + 308) u1 σ1 = some (b, σ2) ∧ ((k = 0 ∧ cd = 0) ∨ (k = 1 ∧ cd = 1)) ∧ σ2 (x + 308) 0 = cd ∧ (k = 0 → r = b) ∧ pq_I rf σ2 x (N + 1) := pq_IZ hI fun Bd Ln h => ⟨Bd + 1, Ln, by omega, q_drink hX (by omega)⟩
theorem i_clear (hX : pq_X rf x) (hN : N ≤ 900) (u1 : Int32) (hI : pq_I rf σ x N) : ∃ (k : Nat) (r : Int32) (σ1 : rc_S) (cd : Int32) (b : Int32) (σ2 : rc_S), f_X8_clear rf x u1 σ = some (k, r, σ1) ∧ f_X9_clear rf (x + 308) u1 σ1 = some (b, σ2) ∧ ((k = 0 ∧ cd = 0) ∨ (k = 1 ∧ cd = 1)) ∧ σ2 (x + 308) 0 = cd ∧ (k = 0 → r = b) ∧ pq_I rf σ2 x (N + 1) := pq_IZ hI fun Bd Ln h => ⟨Bd + 1, Ln, by omega, q_clear hX (by omega)⟩
theorem i_sommelier (hX : pq_X rf x) (hN : N ≤ 900) (u1 u2 : Int32) (hs : u2 = 0 ∨ u2 = 1) (hI : pq_I rf σ x N) : ∃ (k : Nat) (r : Int32) (σ1 : rc_S) (cd : Int32) (b : Int32) (σ2 : rc_S), f_X8_sommelier rf x u1 u2 σ = some (k, r, σ1) ∧ f_X9_sommelier rf (x + 308) u1 u2 σ1 = some (b, σ2) ∧ ((k = 0 ∧ cd = 0) ∨ (k = 1 ∧ cd = 1)) ∧ σ2 (x + 308) 0 = cd ∧ (k = 0 → r = b) ∧ pq_I rf σ2 x (N + 1) := pq_IZ hI fun Bd Ln h => ⟨Bd + 1, Ln, by omega, q_sommelier hX (by omega) hs⟩
theorem i_undo (hX : pq_X rf x) (hN : N ≤ 900) (hI : pq_I rf σ x N) : ∃ (k : Nat) (r : Int32) (σ1 : rc_S) (cd : Int32) (b : Int32) (σ2 : rc_S), f_X8_undo rf x  σ = some (k, r, σ1) ∧ f_X9_undo rf (x + 308)  σ1 = some (b, σ2) ∧ ((k = 0 ∧ cd = 0) ∨ (k = 5 ∧ cd = 1)) ∧ σ2 (x + 308) 0 = cd ∧ (k = 0 → r = b) ∧ pq_I rf σ2 x (N + 1) := pq_IZ hI fun Bd Ln h => ⟨Bd, Ln, by omega, q_undo hX⟩
theorem i_restore (hX : pq_X rf x) (hN : N ≤ 900) (hI : pq_I rf σ x N) : ∃ (k : Nat) (r : Int32) (σ1 : rc_S) (cd : Int32) (b : Int32) (σ2 : rc_S), f_X8_restore rf x  σ = some (k, r, σ1) ∧ f_X9_restore rf (x + 308)  σ1 = some (b, σ2) ∧ ((k = 0 ∧ cd = 0) ∨ (k = 5 ∧ cd = 1)) ∧ σ2 (x + 308) 0 = cd ∧ (k = 0 → r = b) ∧ pq_I rf σ2 x (N + 1) := pq_IZ hI fun Bd Ln h => ⟨Bd, Ln, by omega, q_restore hX⟩
theorem i_commands (hX : pq_X rf x) (hN : N ≤ 900) (hI : pq_I rf σ x N) : ∃ (k : Nat) (r : Int32) (σ1 : rc_S) (cd : Int32) (b : Int32) (σ2 : rc_S), f_X8_commands rf x  σ = some (k, r, σ1) ∧ f_X9_commands rf (x + 308)  σ1 = some (b, σ2) ∧ ((k = 0 ∧ cd = 0) ∨ (k = 3 ∧ cd = 1) ∨ (k = 1 ∧ cd = 2)) ∧ σ2 (x + 308) 0 = cd ∧ (k = 0 → r = b) ∧ pq_I rf σ2 x (N + 1) := pq_IZ hI fun Bd Ln h => ⟨Bd + Ln, 0, by omega, q_commands hX (by omega)⟩
theorem i_append (hX : pq_X rf x) (hN : N ≤ 900) (u1 : Int32) (hu : vp_nar .char u1 = u1) (hI : pq_I rf σ x N) : ∃ (k : Nat) (r : Int32) (σ1 : rc_S) (cd : Int32) (b : Int32) (σ2 : rc_S), f_X8_append rf x u1 σ = some (k, r, σ1) ∧ f_X9_append rf (x + 308) u1 σ1 = some (b, σ2) ∧ ((k = 0 ∧ cd = 0) ∨ (k = 5 ∧ cd = 1)) ∧ σ2 (x + 308) 0 = cd ∧ (k = 0 → r = b) ∧ pq_I rf σ2 x (N + 1) := pq_IZ hI fun Bd Ln h => (q_append (Bd := Bd) (Ln := Ln) hX hu).elim fun Ln2 e => ⟨Bd, Ln2, by have := e.1; omega, e.2⟩
theorem i_year (hX : pq_X rf x) (hN : N ≤ 900) (hI : pq_I rf σ x N) : ∃ (r : Int32) (σ1 σ2 : rc_S), f_X8_year rf x σ = some (r, σ1) ∧ f_X9_year rf (x + 308) σ1 = some (r, σ2) ∧ pq_I rf σ2 x (N + 1) := pq_IZ2 hI fun Bd Ln h => ⟨Bd + 1, Ln, by omega, q_year hX (by omega)⟩
theorem i_isEven (hX : pq_X rf x) (hN : N ≤ 900) (hI : pq_I rf σ x N) : ∃ (r : Int32) (σ1 σ2 : rc_S), f_X8_isEven rf x σ = some (r, σ1) ∧ f_X9_isEven rf (x + 308) σ1 = some (r, σ2) ∧ pq_I rf σ2 x (N + 1) := pq_IZ2 hI fun Bd Ln h => ⟨Bd, Ln, by omega, z_isEven hX⟩
theorem i_faultPosition (hX : pq_X rf x) (hN : N ≤ 900) (hI : pq_I rf σ x N) : ∃ (r : Int32) (σ1 σ2 : rc_S), f_X8_faultPosition rf x σ = some (r, σ1) ∧ f_X9_faultPosition rf (x + 308) σ1 = some (r, σ2) ∧ pq_I rf σ2 x (N + 1) := pq_IZ2 hI fun Bd Ln h => ⟨Bd, Ln, by omega, z_faultPosition⟩
theorem i_panel (hX : pq_X rf x) (hN : N ≤ 900) (hI : pq_I rf σ x N) : ∃ (r : Int32) (σ1 σ2 : rc_S), f_X8_panel rf x σ = some (r, σ1) ∧ f_X9_panel rf (x + 308) σ1 = some (r, σ2) ∧ pq_I rf σ2 x (N + 1) := pq_IZ2 hI fun Bd Ln h => ⟨Bd, Ln, by omega, z_panel hX⟩
theorem i_save (hX : pq_X rf x) (hN : N ≤ 900) (hI : pq_I rf σ x N) : ∃ (r : Int32) (σ1 σ2 : rc_S), f_X8_save rf x σ = some (r, σ1) ∧ f_X9_save rf (x + 308) σ1 = some (r, σ2) ∧ pq_I rf σ2 x (N + 1) := pq_IZ2 hI fun Bd Ln h => ⟨Bd, Ln, by omega, q_save hX⟩
theorem i_hailShare (hX : pq_X rf x) (hI : pq_I rf σ x N) : ∃ (k : Nat) (r : UInt32) (cd : Int32) (b : UInt32) (σ2 : rc_S), f_X8_hailShare rf x σ = some (k, r, σ) ∧ f_X9_hailShare rf (x + 308) σ = some (b, σ2) ∧ ((k = 0 ∧ cd = 0) ∨ (k = 6 ∧ cd = 1)) ∧ σ2 (x + 308) 0 = cd ∧ (k = 0 → r = b) ∧ (k = 0 → vf_n64 (FP.f2d r)) ∧ pq_I rf σ2 x (N + 1) := by
  obtain ⟨Bd, Ln, hN, hJ⟩ := hI
  obtain ⟨k, r, cd, b, σ2, e1, e2, e3, e4, e5, e6, e7⟩ := z_hailShare hX σ hJ
  exact ⟨k, r, cd, b, σ2, e1, e2, e3, e4, e5, e6, Bd, Ln, by omega, e7⟩
end PQI
