def pq_OC (σ : rc_S) (x : Nat) (L : List Nat) : Prop := σ (x + 306) 1 = 0 ∧ σ (x + 306) 3 = Int32.ofNat L.length ∧ L.length ≤ 16 ∧ ∀ k v, L[k]? = some v → v < 128 ∧ σ (x + 307) k = Int32.ofNat v
def pq_OR (σ : rc_S) (m : Nat) (L : List Nat) : Prop := σ m 11 = Int32.ofNat L.length ∧ L.length ≤ 16 ∧ ∀ k v, L[k]? = some v → σ (m + 7) k = Int32.ofNat v
def pq_dg (v : Nat) : List Nat := if v < 10 then [48 + v] else if v < 100 then [48 + v / 10, 48 + v % 10] else [48 + v / 100, 48 + v / 10 % 10, 48 + v % 10]
theorem pq_dgl (v : Nat) : (pq_dg v).length ≤ 3 ∧ (v < 100 → (pq_dg v).length ≤ 2) ∧ (v < 10 → (pq_dg v).length = 1) := by
  unfold pq_dg
  by_cases h1 : v < 10
  · simp [h1]
  · by_cases h2 : v < 100 <;> simp [h1, h2]
theorem qs_by : ∀ c, c < 128 → vp_nar .byte (Int32.ofNat c).toInt8.toInt32 = Int32.ofNat c := by decide +kernel
theorem qs_d1 : ∀ j, j < 100 → vp_nar .byte (rc_d1 j) = Int32.ofNat (48 + j % 10) := by decide +kernel
theorem qs_d10 : ∀ j, j < 100 → vp_nar .byte (rc_d10 j) = Int32.ofNat (48 + j / 10) := by decide +kernel
theorem qs_n1 : ∀ v, v < 1000 → ((-100 : Int32) < -Int32.ofNat v ↔ v < 100) := by decide +kernel
theorem qs_n2 : ∀ v, v < 1000 → ((-9 : Int32) ≤ -Int32.ofNat v ↔ v ≤ 9) := by decide +kernel
theorem qs_n3 : ∀ v, v < 1000 → -Int32.ofNat v / 100 = -Int32.ofNat (v / 100) := by decide +kernel
theorem qs_n4 : ∀ v, v < 1000 → (-Int32.ofNat (v / 100)) * 100 - -Int32.ofNat v = Int32.ofNat (v % 100) := by decide +kernel
theorem qs_n5 : ∀ v, v < 1000 → (-Int32.ofNat v ≤ -10 ↔ 10 ≤ v) ∧ (-Int32.ofNat v ≤ -100 ↔ 100 ≤ v) ∧ ¬ -Int32.ofNat v ≤ -1000 := by decide +kernel
theorem qs_n6 : ∀ t, t ≤ 16 → Int32.ofNat t - 16 ≤ 0 := by decide
section PQO
variable {rf : rc_F} {σ σ' : rc_S} {x m : Nat} {L : List Nat}
theorem qs_set (h : pq_OC σ x L) (ds : List Nat) (hds : ∀ d ∈ ds, d < 128) (hl : L.length + ds.length ≤ 16) (h1 : σ' (x + 306) 1 = 0) (h3 : σ' (x + 306) 3 = Int32.ofNat (L.length + ds.length)) (hb : ∀ j v, ds[j]? = some v → σ' (x + 307) (L.length + j) = Int32.ofNat v) (hk : ∀ k, k < L.length → σ' (x + 307) k = σ (x + 307) k) : pq_OC σ' x (L ++ ds) := by
  refine ⟨h1, by rw [h3, List.length_append], by rw [List.length_append]; exact hl, fun k v hv => ?_⟩
  by_cases hkl : k < L.length
  · rw [List.getElem?_append_left hkl] at hv
    rw [hk k hkl]
    exact h.2.2.2 k v hv
  · rw [List.getElem?_append_right (by omega)] at hv
    refine ⟨hds v (List.mem_of_getElem? hv), ?_⟩
    have := hb _ _ hv
    rw [show L.length + (k - L.length) = k by omega] at this
    exact this
theorem qs_setR (h : pq_OR σ m L) (ds : List Nat) (hl : L.length + ds.length ≤ 16) (h3 : σ' m 11 = Int32.ofNat (L.length + ds.length)) (hb : ∀ j v, ds[j]? = some v → σ' (m + 7) (L.length + j) = Int32.ofNat v) (hk : ∀ k, k < L.length → σ' (m + 7) k = σ (m + 7) k) : pq_OR σ' m (L ++ ds) := by
  refine ⟨by rw [h3, List.length_append], by rw [List.length_append]; exact hl, fun k v hv => ?_⟩
  by_cases hkl : k < L.length
  · rw [List.getElem?_append_left hkl] at hv
    rw [hk k hkl]
    exact h.2.2 k v hv
  · rw [List.getElem?_append_right (by omega)] at hv
    have := hb _ _ hv
    rw [show L.length + (k - L.length) = k by omega] at this
    exact this
theorem qs_ens (h : σ (x + 306) 1 = 0) {t : Nat} (ht : t ≤ 16) : f_J5_ensureCapacityInternal_d00df rf (x + 306) (Int32.ofNat t) σ = some ((), σ) := by
  rw [f_J5_ensureCapacityInternal_d00df, rc_lt, h, show (16 : Int32) >>> ((0 : Int32) &&& 31) = 16 from by decide, if_pos (qs_n6 t ht)]
theorem qs_lat (h : σ (x + 306) 1 = 0) : f_J5_isLatin1_aae02 rf (x + 306) σ = some (1, σ) := by
  rw [f_J5_isLatin1_aae02, if_pos h]
theorem qs_ch (hX : pq_X rf x) (h : pq_OC σ x L) (hl : L.length < 16) (c : Nat) (hc : c < 128) : ∃ σ', f_J4_append_cf468 rf (x + 306) (Int32.ofNat c) σ = some (x + 306, σ') ∧ pq_OC σ' x (L ++ [c]) ∧ ∀ a, a ≠ x + 306 → a ≠ x + 307 → σ' a = σ a := by
  refine ⟨rc_up (rc_up σ (x + 306) 3 (Int32.ofNat (L.length + 1))) (x + 307) L.length (Int32.ofNat c), ?_, ?_, fun a h1 h2 => by rw [pq_upN h2, pq_upN h1]⟩
  · rw [f_J4_append_cf468, f_J5_append_3fe6f, h.2.1, pq_s, qs_ens h.1 (by omega), pq_bd, qs_lat h.1, pq_bd, if_neg (by decide), f_J1_canEncode_fc78d, if_neg (show ¬ (255 : Int32) < Int32.ofNat c from fun q => by have := (pq_lt (show 255 < 2147483648 by decide) (by omega)).mp q; omega), pq_bd, if_neg (by decide), rc_lt, h.2.1, pq_in (by omega) (by decide), pq_ck, pq_cl (by omega), pq_b hX, rc_lt, qs_by c hc, pq_bd, pq_s]
  · refine qs_set h [c] (fun d hd => by rw [List.mem_singleton.mp hd]; exact hc) (by simp; omega) ?_ ?_ (fun j v hv => ?_) (fun k hk => ?_)
    · rw [pq_upN (by omega), pq_upE, pq_udN (by decide)]; exact h.1
    · rw [pq_upN (by omega), pq_upE, pq_udE]; rfl
    · match j, hv with
      | 0, hv => cases hv; rw [pq_upE]; exact pq_udE
      | j + 1, hv => simp at hv
    · rw [pq_upE, pq_udN (by omega), pq_upN (by omega)]
theorem qs_sz {v : Nat} (hv : v < 1000) : f_J6_stringSize_0f7a4 rf (Int32.ofNat v) σ = some (Int32.ofNat (pq_dg v).length, σ) := by
  have n5 := qs_n5 v hv
  have hz : ¬ Int32.ofNat v < 0 := fun q => by have := (pq_lt (by omega) (show 0 < 2147483648 by decide)).mp q; omega
  rw [f_J6_stringSize_0f7a4, if_neg hz, rc_lt, show rc_fu = 99997 + 1 + 1 + 1 from rfl, f_J6_stringSize_0f7a4_16, if_neg (by decide)]
  by_cases h1 : 10 ≤ v
  · rw [if_pos (n5.1.mpr h1), rc_lt, rc_lt, f_J6_stringSize_0f7a4_16, if_neg (by decide)]
    by_cases h2 : 100 ≤ v
    · rw [show (10 : Int32) * -10 = -100 from by decide, if_pos (n5.2.1.mpr h2), rc_lt, rc_lt, f_J6_stringSize_0f7a4_16, if_neg (by decide), show (10 : Int32) * -100 = -1000 from by decide, if_neg n5.2.2, pq_dg, if_neg (by omega), if_neg (by omega)]
      rfl
    · rw [show (10 : Int32) * -10 = -100 from by decide, if_neg (fun q => h2 (n5.2.1.mp q)), pq_dg, if_neg (by omega), if_pos (by omega)]
      rfl
  · rw [if_neg (fun q => h1 (n5.1.mp q)), pq_dg, if_pos (by omega)]
    rfl
theorem qs_cl {v : Nat} (hv : v < 100) {q : Nat} : rc_in (Int32.ofNat v) 100 = true := pq_in hv (by decide)
theorem qs_gc {v o q : Nat} (hv : v < 1000) (ho : o + (pq_dg v).length ≤ 16) : ∃ r σ', f_J6_getChars_ba4f3 rf (Int32.ofNat v) (Int32.ofNat (o + (pq_dg v).length)) q σ = some (r, σ') ∧ (∀ a, a ≠ q → σ' a = σ a) ∧ (∀ j d, (pq_dg v)[j]? = some d → σ' q (o + j) = Int32.ofNat d) ∧ ∀ k, k < o → σ' q k = σ q k := by
  have hz : 0 ≤ Int32.ofNat v := Int32.zero_le_ofNat_of_lt (by omega)
  by_cases h1 : v < 10
  · have e : pq_dg v = [48 + v] := by rw [pq_dg, if_pos h1]
    rw [e] at ho ⊢
    refine ⟨Int32.ofNat o, rc_up σ q o (Int32.ofNat (48 + v)), ?_, fun a ha => pq_upN ha, fun j d hd => ?_, fun k hk => by rw [pq_upE, pq_udN (by omega)]⟩
    · rw [f_J6_getChars_ba4f3, if_pos hz, rc_lt, show rc_fu = 99999 + 1 from rfl, f_J6_getChars_ba4f3_22, if_pos ((qs_n1 v hv).mpr (by omega)), rc_lt, Int32.neg_neg, show o + [48 + v].length = o + 1 from rfl, pq_dec (by omega), show o + 1 - 1 = o by omega, pq_in (by omega) (by decide), pq_in (by simp at ho; omega) (by decide), pq_ck, pq_ck, pq_cl (by omega), pq_cl (by simp at ho; omega), rc_lt, qs_d1 v (by omega), if_pos ((qs_n2 v hv).mpr (by omega)), show v % 10 = v by omega]
    · match j, hd with
      | 0, hd => cases hd; rw [pq_upE]; exact pq_udE
      | j + 1, hd => simp at hd
  · by_cases h2 : v < 100
    · have e : pq_dg v = [48 + v / 10, 48 + v % 10] := by rw [pq_dg, if_neg h1, if_pos h2]
      rw [e] at ho ⊢
      refine ⟨Int32.ofNat o, rc_up (rc_up σ q (o + 1) (Int32.ofNat (48 + v % 10))) q o (Int32.ofNat (48 + v / 10)), ?_, fun a ha => by rw [pq_upN ha, pq_upN ha], fun j d hd => ?_, fun k hk => by rw [pq_upE, pq_udN (by omega), pq_upE, pq_udN (by omega)]⟩
      · rw [f_J6_getChars_ba4f3, if_pos hz, rc_lt, show rc_fu = 99999 + 1 from rfl, f_J6_getChars_ba4f3_22, if_pos ((qs_n1 v hv).mpr (by omega)), rc_lt, Int32.neg_neg, show o + [48 + v / 10, 48 + v % 10].length = o + 2 from rfl, pq_dec (by omega), show o + 2 - 1 = o + 1 by omega, pq_in (by omega) (by decide), pq_in (by simp at ho; omega) (by decide), pq_ck, pq_ck, pq_cl (by omega), pq_cl (by simp at ho; omega), rc_lt, qs_d1 v (by omega), if_neg (fun z => by have := (qs_n2 v hv).mp z; omega), rc_lt, pq_dec (by omega), show o + 1 - 1 = o by omega, pq_ck, pq_in (by simp at ho; omega) (by decide), pq_ck, pq_cl (by simp at ho; omega), rc_lt, qs_d10 v (by omega)]
      · match j, hd with
        | 0, hd => cases hd; rw [pq_upE]; exact pq_udE
        | 1, hd => cases hd; rw [pq_upE, pq_udN (by omega), pq_upE, pq_udE]
        | j + 2, hd => simp at hd
    · have e : pq_dg v = [48 + v / 100, 48 + v / 10 % 10, 48 + v % 10] := by rw [pq_dg, if_neg h1, if_neg h2]
      rw [e] at ho ⊢
      refine ⟨Int32.ofNat o, rc_up (rc_up (rc_up σ q (o + 2) (Int32.ofNat (48 + v % 10))) q (o + 1) (Int32.ofNat (48 + v / 10 % 10))) q o (Int32.ofNat (48 + v / 100)), ?_, fun a ha => by rw [pq_upN ha, pq_upN ha, pq_upN ha], fun j d hd => ?_, fun k hk => by rw [pq_upE, pq_udN (by omega), pq_upE, pq_udN (by omega), pq_upE, pq_udN (by omega)]⟩
      · rw [f_J6_getChars_ba4f3, if_pos hz, rc_lt, show rc_fu = 99998 + 1 + 1 from rfl, f_J6_getChars_ba4f3_22, if_neg (fun z => h2 ((qs_n1 v hv).mp z)), rc_lt, rc_lt, qs_n3 v hv, qs_n4 v hv, rc_lt, show o + [48 + v / 100, 48 + v / 10 % 10, 48 + v % 10].length = o + 3 from rfl, pq_dec (by omega), show o + 3 - 1 = o + 2 by omega, pq_in (by omega) (by decide), pq_in (by simp at ho; omega) (by decide), pq_ck, pq_ck, pq_cl (by omega), pq_cl (by simp at ho; omega), rc_lt, qs_d1 _ (by omega), rc_lt, pq_dec (by omega), show o + 2 - 1 = o + 1 by omega, pq_ck, pq_in (by simp at ho; omega) (by decide), pq_ck, pq_cl (by simp at ho; omega), rc_lt, qs_d10 _ (by omega)]
        rw [f_J6_getChars_ba4f3_22, if_pos ((qs_n1 (v / 100) (by omega)).mpr (by omega)), rc_lt, Int32.neg_neg, pq_dec (by omega), show o + 1 - 1 = o by omega, pq_in (by omega) (by decide), pq_in (by simp at ho; omega) (by decide), pq_ck, pq_ck, pq_cl (by omega), pq_cl (by simp at ho; omega), rc_lt, qs_d1 _ (by omega), if_pos ((qs_n2 (v / 100) (by omega)).mpr (by omega)), show v % 100 % 10 = v % 10 by omega, show v % 100 / 10 = v / 10 % 10 by omega, show v / 100 % 10 = v / 100 by omega]
      · match j, hd with
        | 0, hd => cases hd; rw [pq_upE]; exact pq_udE
        | 1, hd => cases hd; rw [pq_upE, pq_udN (by omega), pq_upE, pq_udE]
        | 2, hd => cases hd; rw [pq_upE, pq_udN (by omega), pq_upE, pq_udN (by omega), pq_upE, pq_udE]
        | j + 3, hd => simp at hd
theorem pq_dgb {v : Nat} (hv : v < 1000) : ∀ d ∈ pq_dg v, d < 128 := by
  intro d hd
  unfold pq_dg at hd
  by_cases h1 : v < 10
  · simp [h1] at hd; omega
  · by_cases h2 : v < 100
    · simp [h1, h2] at hd; omega
    · simp [h1, h2] at hd; omega
theorem qs_nm (hX : pq_X rf x) (h : pq_OC σ x L) {v : Nat} (hv : v < 1000) (hl : L.length + (pq_dg v).length ≤ 16) : ∃ σ', f_J4_append_bf812 rf (x + 306) (Int32.ofNat v) σ = some (x + 306, σ') ∧ pq_OC σ' x (L ++ pq_dg v) ∧ ∀ a, a ≠ x + 306 → a ≠ x + 307 → σ' a = σ a := by
  obtain ⟨r, σ1, e, h1, h2, h3⟩ := qs_gc (rf := rf) (σ := σ) (q := x + 307) hv hl
  refine ⟨rc_up σ1 (x + 306) 3 (Int32.ofNat (L.length + (pq_dg v).length)), ?_, ?_, fun a a1 a2 => by rw [pq_upN a1, h1 a a2]⟩
  · rw [f_J4_append_bf812, f_J5_append_c97b9, rc_lt, qs_sz hv, pq_bd, rc_lt, h.2.1, ← Int32.ofNat_add, qs_ens h.1 hl, pq_bd, qs_lat h.1, pq_bd, if_neg (by decide), pq_b hX, e, pq_bd, rc_lt, pq_bd]
  · refine qs_set h _ (pq_dgb hv) hl ?_ ?_ (fun j d hd => ?_) (fun k hk => ?_)
    · rw [pq_upE, pq_udN (by decide), h1 _ (by omega)]; exact h.1
    · rw [pq_upE, pq_udE]
    · rw [pq_upN (by omega)]; exact h2 j d hd
    · rw [pq_upN (by omega)]; exact h3 k hk
theorem qs_len0 (hX : pq_X rf x) (h : pq_OC σ x L) : ∃ σ', f_J4_setLength_d00df rf (x + 306) 0 σ = some ((), σ') ∧ pq_OC σ' x [] ∧ ∀ a, a ≠ x + 306 → σ' a = σ a := by
  have hl := h.2.2.1
  have hz : (0 : Int32) ≤ Int32.ofNat L.length := Int32.zero_le_ofNat_of_lt (by omega)
  have e0 := qs_ens (rf := rf) (σ := σ) (x := x) h.1 (t := 0) (by omega)
  rw [show Int32.ofNat 0 = (0 : Int32) from rfl] at e0
  by_cases hc : Int32.ofNat L.length ≤ 0
  · refine ⟨rc_up σ (x + 306) 3 0, ?_, ⟨by rw [pq_upE, pq_udN (by decide)]; exact h.1, by rw [pq_upE, pq_udE]; rfl, by simp, fun k v hv => by simp at hv⟩, fun a ha => pq_upN ha⟩
    rw [f_J4_setLength_d00df, f_J5_setLength_d00df, if_pos (by decide), e0, pq_bd, h.2.1, if_pos hz, if_pos hc, rc_lt, pq_bd]
  · refine ⟨rc_up (rc_up σ (x + 306) 2 1) (x + 306) 3 0, ?_, ⟨by rw [pq_upE, pq_udN (by decide), pq_upE, pq_udN (by decide)]; exact h.1, by rw [pq_upE, pq_udE]; rfl, by simp, fun k v hv => by simp at hv⟩, fun a ha => by rw [pq_upN ha, pq_upN ha]⟩
    rw [f_J4_setLength_d00df, f_J5_setLength_d00df, if_pos (by decide), e0, pq_bd, h.2.1, if_pos hz, if_neg hc, rc_lt, rc_lt, pq_bd]
theorem qs_lng (h : pq_OC σ x L) : f_J4_length_8abf5 rf (x + 306) σ = some (Int32.ofNat L.length, σ) := by
  rw [f_J4_length_8abf5, f_J5_length_8abf5, pq_bd, h.2.1]
/-! the reference -/
theorem qr_ch (hM : pq_M rf m) (h : pq_OR σ m L) (hl : L.length < 16) {c : Int32} {d : Nat} (hc : c = Int32.ofNat d) : ∃ σ', f_X9_writes rf m c σ = some ((), σ') ∧ pq_OR σ' m (L ++ [d]) ∧ (∀ a, a ≠ m → a ≠ m + 7 → σ' a = σ a) ∧ ∀ k, k ≠ 11 → σ' m k = σ m k := by
  subst hc
  refine ⟨rc_up (rc_up σ (m + 7) L.length (Int32.ofNat d)) m 11 (Int32.ofNat (L.length + 1)), ?_, ?_, fun a h1 h2 => by rw [pq_upN h1, pq_upN h2], fun k hk => by rw [pq_upE, pq_udN hk, pq_upN (by omega)]⟩
  · rw [f_X9_writes, h.1, pq_in (by omega) (by decide), pq_ck, pq_cl (by omega), pq_m9 hM, rc_lt, rc_lt, pq_upN (by omega), h.1, pq_s]
  · refine qs_setR h [d] (by simp; omega) ?_ (fun j v hv => ?_) (fun k hk => ?_)
    · rw [pq_upE, pq_udE]; rfl
    · match j, hv with
      | 0, hv => cases hv; rw [pq_upN (by omega), pq_upE]; exact pq_udE
      | j + 1, hv => simp at hv
    · rw [pq_upN (by omega), pq_upE, pq_udN (by omega)]
theorem qr_e1 {v : Nat} (hv : v < 1000) : (48 : Int32) + (Int32.ofNat v - Int32.ofNat v / 10 * 10) = Int32.ofNat (48 + v % 10) := by
  have := pq_md (s := v) (k := 10) (by decide) (by omega) (by decide)
  rw [show Int32.ofNat 10 = (10 : Int32) from rfl] at this
  rw [this, Int32.ofNat_add]; rfl
theorem qr_e2 {v : Nat} (hv : v < 1000) : (48 : Int32) + (Int32.ofNat v / 10 - Int32.ofNat v / 10 / 10 * 10) = Int32.ofNat (48 + v / 10 % 10) := by
  have e : Int32.ofNat v / 10 = Int32.ofNat (v / 10) := by rw [Int32.ofNat_div (by omega) (by decide)]; rfl
  rw [e, qr_e1 (by omega)]
theorem qr_e3 {v : Nat} (hv : v < 1000) : (48 : Int32) + (Int32.ofNat v / 100 - Int32.ofNat v / 100 / 10 * 10) = Int32.ofNat (48 + v / 100 % 10) := by
  have e : Int32.ofNat v / 100 = Int32.ofNat (v / 100) := by rw [Int32.ofNat_div (by omega) (by decide)]; rfl
  rw [e, qr_e1 (by omega)]
theorem qr_le {v k : Nat} (hv : v < 1000) (hk : k < 1000) : (Int32.ofNat v ≤ Int32.ofNat k) ↔ v ≤ k := pq_le (by omega) (by omega)
theorem qr_nm (hM : pq_M rf m) (h : pq_OR σ m L) {v : Nat} (hv : v < 1000) (hl : L.length + (pq_dg v).length ≤ 16) : ∃ σ', f_X9_writesNumber rf m (Int32.ofNat v) σ = some ((), σ') ∧ pq_OR σ' m (L ++ pq_dg v) ∧ (∀ a, a ≠ m → a ≠ m + 7 → σ' a = σ a) ∧ ∀ k, k ≠ 11 → σ' m k = σ m k := by
  have c9 : (Int32.ofNat v ≤ 9) ↔ v ≤ 9 := qr_le hv (by decide)
  have c99 : (Int32.ofNat v ≤ 99) ↔ v ≤ 99 := qr_le hv (by decide)
  have c999 : Int32.ofNat v ≤ 999 := (qr_le (k := 999) hv (by decide)).mpr (by omega)
  rw [f_X9_writesNumber, if_pos c999]
  by_cases h1 : v < 10
  · have e : pq_dg v = [48 + v] := by rw [pq_dg, if_pos h1]
    rw [e] at hl ⊢
    rw [if_pos (c99.mpr (by omega)), if_pos (c9.mpr (by omega))]
    obtain ⟨σ1, e1, o1, f1, k1⟩ := qr_ch hM h (by simp at hl; omega) (qr_e1 hv)
    rw [show v % 10 = v by omega] at o1
    exact ⟨σ1, by rw [e1, pq_bd], o1, f1, k1⟩
  · by_cases h2 : v < 100
    · have e : pq_dg v = [48 + v / 10, 48 + v % 10] := by rw [pq_dg, if_neg h1, if_pos h2]
      rw [e] at hl ⊢
      rw [if_pos (c99.mpr (by omega)), if_neg (fun q => by have := c9.mp q; omega)]
      obtain ⟨σ1, e1, o1, f1, k1⟩ := qr_ch hM h (by simp at hl; omega) (qr_e2 hv)
      obtain ⟨σ2, e2, o2, f2, k2⟩ := qr_ch hM o1 (by simp at hl ⊢; omega) (qr_e1 hv)
      rw [show v / 10 % 10 = v / 10 by omega, List.append_assoc] at o2
      exact ⟨σ2, by rw [e1, pq_bd, e2, pq_bd], o2, fun a a1 a2 => by rw [f2 a a1 a2, f1 a a1 a2], fun k hk => by rw [k2 k hk, k1 k hk]⟩
    · have e : pq_dg v = [48 + v / 100, 48 + v / 10 % 10, 48 + v % 10] := by rw [pq_dg, if_neg h1, if_neg h2]
      rw [e] at hl ⊢
      rw [if_neg (fun q => by have := c99.mp q; omega)]
      obtain ⟨σ1, e1, o1, f1, k1⟩ := qr_ch hM h (by simp at hl; omega) (qr_e3 hv)
      obtain ⟨σ2, e2, o2, f2, k2⟩ := qr_ch hM o1 (by simp at hl ⊢; omega) (qr_e2 hv)
      obtain ⟨σ3, e3, o3, f3, k3⟩ := qr_ch hM o2 (by simp at hl ⊢; omega) (qr_e1 hv)
      rw [show v / 100 % 10 = v / 100 by omega, List.append_assoc, List.append_assoc] at o3
      exact ⟨σ3, by rw [e1, pq_bd, if_neg (fun q => by have := c9.mp q; omega), e2, pq_bd, e3, pq_bd], o3, fun a a1 a2 => by rw [f3 a a1 a2, f2 a a1 a2, f1 a a1 a2], fun k hk => by rw [k3 k hk, k2 k hk, k1 k hk]⟩
end PQO
