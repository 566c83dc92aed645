def pq_OC (σ : rc_S) (x : Nat) (L : List Nat) : Prop := σ (x + 306) 1 = 0 ∧ σ (x + 306) 3 = Int32.ofNat L.length ∧ L.length ≤ 16 ∧ ∀ k v, L[k]? = some v → v < 128 ∧ σ (x + 307) k = Int32.ofNat v
def pq_dg (v : Nat) : List Nat := if v < 10 then [48 + v] else if v < 100 then [48 + v / 10, 48 + v % 10] else [48 + v / 100, 48 + v / 10 % 10, 48 + v % 10]
theorem pq_dgl (v : Nat) : (pq_dg v).length ≤ 3 ∧ (v < 100 → (pq_dg v).length ≤ 2) ∧ (v < 10 → (pq_dg v).length = 1) := by
  unfold pq_dg
  by_cases h1 : v < 10
  · simp [h1]
  · by_cases h2 : v < 100 <;> simp [h1, h2]
theorem qs_by : ∀ c, c < 128 → vp_nar .byte (Int32.ofNat c).toInt8.toInt32 = Int32.ofNat c := by decide +kernel
theorem qs_d1 : ∀ j, j < 100 → vp_nar .byte (rc_d1 j) = Int32.ofNat (48 + j % 10) := by decide +kernel
theorem qs_d10 : ∀ j, j < 100 → vp_nar .byte (rc_d10 j) = Int32.ofNat (48 + j / 10) := by decide +kernel
theorem qs_n1 : ∀ v, v < 1000 → ((-100 : Int32) < -Int32.ofNat v ↔ v < 100) := by decide +kernel
theorem qs_n2 : ∀ v, v < 1000 → ((-9 : Int32) ≤ -Int32.ofNat v ↔ v ≤ 9) := by decide +kernel
theorem qs_n3 : ∀ v, v < 1000 → -Int32.ofNat v / 100 = -Int32.ofNat (v / 100) := by decide +kernel
theorem qs_n4 : ∀ v, v < 1000 → (-Int32.ofNat (v / 100)) * 100 - -Int32.ofNat v = Int32.ofNat (v % 100) := by decide +kernel
theorem qs_n5 : ∀ v, v < 1000 → (-Int32.ofNat v ≤ -10 ↔ 10 ≤ v) ∧ (-Int32.ofNat v ≤ -100 ↔ 100 ≤ v) ∧ ¬ -Int32.ofNat v ≤ -1000 := by decide +kernel
theorem qs_n6 : ∀ t, t ≤ 16 → Int32.ofNat t - 16 ≤ 0 := by decide
section PQO
variable {rf : rc_F} {σ σ' : rc_S} {x m : Nat} {L : List Nat}
theorem qs_set (h : pq_OC σ x L) (ds : List Nat) (hds : ∀ d ∈ ds, d < 128) (hl : L.length + ds.length ≤ 16) (h1 : σ' (x + 306) 1 = 0) (h3 : σ' (x + 306) 3 = Int32.ofNat (L.length + ds.length)) (hb : ∀ j v, ds[j]? = some v → σ' (x + 307) (L.length + j) = Int32.ofNat v) (hk : ∀ k, k < L.length → σ' (x + 307) k = σ (x + 307) k) : pq_OC σ' x (L ++ ds) := by
  refine ⟨h1, by rw [h3, List.length_append], by rw [List.length_append]; exact hl, fun k v hv => ?_⟩
  by_cases hkl : k < L.length
  · rw [List.getElem?_append_left hkl] at hv
    rw [hk k hkl]
    exact h.2.2.2 k v hv
  · rw [List.getElem?_append_right (by omega)] at hv
    refine ⟨hds v (List.mem_of_getElem? hv), ?_⟩
    have := hb _ _ hv
    rw [show L.length + (k - L.length) = k by omega] at this
    exact this
theorem qs_ens (h : σ (x + 306) 1 = 0) {t : Nat} (ht : t ≤ 16) : f_J5_ensureCapacityInternal_d00df rf (x + 306) (Int32.ofNat t) σ = some ((), σ) := by
  rw [f_J5_ensureCapacityInternal_d00df, rc_lt, h, show (16 : Int32) >>> ((0 : Int32) &&& 31) = 16 from by decide, if_pos (qs_n6 t ht)]
theorem qs_lat (h : σ (x + 306) 1 = 0) : f_J5_isLatin1_aae02 rf (x + 306) σ = some (1, σ) := by
  rw [f_J5_isLatin1_aae02, if_pos h]
theorem qs_ch (hX : pq_X rf x) (h : pq_OC σ x L) (hl : L.length < 16) (c : Nat) (hc : c < 128) : ∃ σ', f_J4_append_cf468 rf (x + 306) (Int32.ofNat c) σ = some (x + 306, σ') ∧ pq_OC σ' x (L ++ [c]) ∧ ∀ a, a ≠ x + 306 → a ≠ x + 307 → σ' a = σ a := by
  refine ⟨rc_up (rc_up σ (x + 306) 3 (Int32.ofNat (L.length + 1))) (x + 307) L.length (Int32.ofNat c), ?_, ?_, fun a h1 h2 => by rw [pq_upN h2, pq_upN h1]⟩
  · rw [f_J4_append_cf468, f_J5_append_3fe6f, h.2.1, pq_s, qs_ens h.1 (by omega), pq_bd, qs_lat h.1, pq_bd, if_neg (by decide), f_J1_canEncode_fc78d, if_neg (show ¬ (255 : Int32) < Int32.ofNat c from fun q => by have := (pq_lt (show 255 < 2147483648 by decide) (by omega)).mp q; omega), pq_bd, if_neg (by decide), rc_lt, h.2.1, pq_in (by omega) (by decide), pq_ck, pq_cl (by omega), pq_b hX, rc_lt, qs_by c hc, pq_bd, pq_s]
  · refine qs_set h [c] (fun d hd => by rw [List.mem_singleton.mp hd]; exact hc) (by simp; omega) ?_ ?_ (fun j v hv => ?_) (fun k hk => ?_)
    · rw [pq_upN (by omega), pq_upE, pq_udN (by decide)]; exact h.1
    · rw [pq_upN (by omega), pq_upE, pq_udE]; rfl
    · match j, hv with
      | 0, hv => cases hv; rw [pq_upE]; exact pq_udE
      | j + 1, hv => simp at hv
    · rw [pq_upE, pq_udN (by omega), pq_upN (by omega)]
theorem qs_sz {v : Nat} (hv : v < 1000) : f_J6_stringSize_0f7a4 rf (Int32.ofNat v) σ = some (Int32.ofNat (pq_dg v).length, σ) := by
  have n5 := qs_n5 v hv
  have hz : ¬ Int32.ofNat v < 0 := fun q => by have := (pq_lt (by omega) (show 0 < 2147483648 by decide)).mp q; omega
  rw [f_J6_stringSize_0f7a4, if_neg hz, rc_lt, show rc_fu = 99997 + 1 + 1 + 1 from rfl, f_J6_stringSize_0f7a4_16, if_neg (by decide)]
  by_cases h1 : 10 ≤ v
  · rw [if_pos (n5.1.mpr h1), rc_lt, rc_lt, f_J6_stringSize_0f7a4_16, if_neg (by decide)]
    by_cases h2 : 100 ≤ v
    · rw [show (10 : Int32) * -10 = -100 from by decide, if_pos (n5.2.1.mpr h2), rc_lt, rc_lt, f_J6_stringSize_0f7a4_16, if_neg (by decide), show (10 : Int32) * -100 = -1000 from by decide, if_neg n5.2.2, pq_dg, if_neg (by omega), if_neg (by omega)]
      rfl
    · rw [show (10 : Int32) * -10 = -100 from by decide, if_neg (fun q => h2 (n5.2.1.mp q)), pq_dg, if_neg (by omega), if_pos (by omega)]
      rfl
  · rw [if_neg (fun q => h1 (n5.1.mp q)), pq_dg, if_pos (by omega)]
    rfl
theorem qs_cl {v : Nat} (hv : v < 100) {q : Nat} : rc_in (Int32.ofNat v) 100 = true := pq_in hv (by decide)
theorem qs_gc {v o q : Nat} (hv : v < 1000) (ho : o + (pq_dg v).length ≤ 16) : ∃ r σ', f_J6_getChars_ba4f3 rf (Int32.ofNat v) (Int32.ofNat (o + (pq_dg v).length)) q σ = some (r, σ') ∧ (∀ a, a ≠ q → σ' a = σ a) ∧ (∀ j d, (pq_dg v)[j]? = some d → σ' q (o + j) = Int32.ofNat d) ∧ ∀ k, k < o → σ' q k = σ q k := by
  have hz : 0 ≤ Int32.ofNat v := Int32.zero_le_ofNat_of_lt (by omega)
  by_cases h1 : v < 10
  · have e : pq_dg v = [48 + v] := by rw [pq_dg, if_pos h1]
    rw [e] at ho ⊢
    refine ⟨Int32.ofNat o, rc_up σ q o (Int32.ofNat (48 + v)), ?_, fun a ha => pq_upN ha, fun j d hd => ?_, fun k hk => by rw [pq_upE, pq_udN (by omega)]⟩
    · rw [f_J6_getChars_ba4f3, if_pos hz, rc_lt, show rc_fu = 99999 + 1 from rfl, f_J6_getChars_ba4f3_22, if_pos ((qs_n1 v hv).mpr (by omega)), rc_lt, Int32.neg_neg, show o + [48 + v].length = o + 1 from rfl, pq_dec (by omega), show o + 1 - 1 = o by omega, pq_in (by omega) (by decide), pq_in (by simp at ho; omega) (by decide), pq_ck, pq_ck, pq_cl (by omega), pq_cl (by simp at ho; omega), rc_lt, qs_d1 v (by omega), if_pos ((qs_n2 v hv).mpr (by omega)), show v % 10 = v by omega]
    · match j, hd with
      | 0, hd => cases hd; rw [pq_upE]; exact pq_udE
      | j + 1, hd => simp at hd
  · by_cases h2 : v < 100
    · have e : pq_dg v = [48 + v / 10, 48 + v % 10] := by rw [pq_dg, if_neg h1, if_pos h2]
      rw [e] at ho ⊢
      refine ⟨Int32.ofNat o, rc_up (rc_up σ q (o + 1) (Int32.ofNat (48 + v % 10))) q o (Int32.ofNat (48 + v / 10)), ?_, fun a ha => by rw [pq_upN ha, pq_upN ha], fun j d hd => ?_, fun k hk => by rw [pq_upE, pq_udN (by omega), pq_upE, pq_udN (by omega)]⟩
      · rw [f_J6_getChars_ba4f3, if_pos hz, rc_lt, show rc_fu = 99999 + 1 from rfl, f_J6_getChars_ba4f3_22, if_pos ((qs_n1 v hv).mpr (by omega)), rc_lt, Int32.neg_neg, show o + [48 + v / 10, 48 + v % 10].length = o + 2 from rfl, pq_dec (by omega), show o + 2 - 1 = o + 1 by omega, pq_in (by omega) (by decide), pq_in (by simp at ho; omega) (by decide), pq_ck, pq_ck, pq_cl (by omega), pq_cl (by simp at ho; omega), rc_lt, qs_d1 v (by omega), if_neg (fun z => by have := (qs_n2 v hv).mp z; omega), rc_lt, pq_dec (by omega), show o + 1 - 1 = o by omega, pq_ck, pq_in (by simp at ho; omega) (by decide), pq_ck, pq_cl (by simp at ho; omega), rc_lt, qs_d10 v (by omega)]
      · match j, hd with
        | 0, hd => cases hd; rw [pq_upE]; exact pq_udE
        | 1, hd => cases hd; rw [pq_upE, pq_udN (by omega), pq_upE, pq_udE]
        | j + 2, hd => simp at hd
    · have e : pq_dg v = [48 + v / 100, 48 + v / 10 % 10, 48 + v % 10] := by rw [pq_dg, if_neg h1, if_neg h2]
      rw [e] at ho ⊢
      refine ⟨Int32.ofNat o, rc_up (rc_up (rc_up σ q (o + 2) (Int32.ofNat (48 + v % 10))) q (o + 1) (Int32.ofNat (48 + v / 10 % 10))) q o (Int32.ofNat (48 + v / 100)), ?_, fun a ha => by rw [pq_upN ha, pq_upN ha, pq_upN ha], fun j d hd => ?_, fun k hk => by rw [pq_upE, pq_udN (by omega), pq_upE, pq_udN (by omega), pq_upE, pq_udN (by omega)]⟩
      · rw [f_J6_getChars_ba4f3, if_pos hz, rc_lt, show rc_fu = 99998 + 1 + 1 from rfl, f_J6_getChars_ba4f3_22, if_neg (fun z => h2 ((qs_n1 v hv).mp z)), rc_lt, rc_lt, qs_n3 v hv, qs_n4 v hv, rc_lt, show o + [48 + v / 100, 48 + v / 10 % 10, 48 + v % 10].length = o + 3 from rfl, pq_dec (by omega), show o + 3 - 1 = o + 2 by omega, pq_in (by omega) (by decide), pq_in (by simp at ho; omega) (by decide), pq_ck, pq_ck, pq_cl (by omega), pq_cl (by simp at ho; omega), rc_lt, qs_d1 _ (by omega), rc_lt, pq_dec (by omega), show o + 2 - 1 = o + 1 by omega, pq_ck, pq_in (by simp at ho; omega) (by decide), pq_ck, pq_cl (by simp at ho; omega), rc_lt, qs_d10 _ (by omega)]
        rw [f_J6_getChars_ba4f3_22, if_pos ((qs_n1 (v / 100) (by omega)).mpr (by omega)), rc_lt, Int32.neg_neg, pq_dec (by omega), show o + 1 - 1 = o by omega, pq_in (by omega) (by decide), pq_in (by simp at ho; omega) (by decide), pq_ck, pq_ck, pq_cl (by omega), pq_cl (by simp at ho; omega), rc_lt, qs_d1 _ (by omega), if_pos ((qs_n2 (v / 100) (by omega)).mpr (by omega)), show v % 100 % 10 = v % 10 by omega, show v % 100 / 10 = v / 10 % 10 by omega, show v / 100 % 10 = v / 100 by omega]
      · match j, hd with
        | 0, hd => cases hd; rw [pq_upE]; exact pq_udE
        | 1, hd => cases hd; rw [pq_upE, pq_udN (by omega), pq_upE, pq_udE]
        | 2, hd => cases hd; rw [pq_upE, pq_udN (by omega), pq_upE, pq_udN (by omega), pq_upE, pq_udE]
        | j + 3, hd => simp at hd
theorem pq_dgb {v : Nat} (hv : v < 1000) : ∀ d ∈ pq_dg v, d < 128 := by
  intro d hd
  unfold pq_dg at hd
  by_cases h1 : v < 10
  · simp [h1] at hd; omega
  · by_cases h2 : v < 100
    · simp [h1, h2] at hd; omega
    · simp [h1, h2] at hd; omega
theorem qs_nm (hX : pq_X rf x) (h : pq_OC σ x L) {v : Nat} (hv : v < 1000) (hl : L.length + (pq_dg v).length ≤ 16) : ∃ σ', f_J4_append_bf812 rf (x + 306) (Int32.ofNat v) σ = some (x + 306, σ') ∧ pq_OC σ' x (L ++ pq_dg v) ∧ ∀ a, a ≠ x + 306 → a ≠ x + 307 → σ' a = σ a := by
  obtain ⟨r, σ1, e, h1, h2, h3⟩ := qs_gc (rf := rf) (σ := σ) (q := x + 307) hv hl
  refine ⟨rc_up σ1 (x + 306) 3 (Int32.ofNat (L.length + (pq_dg v).length)), ?_, ?_, fun a a1 a2 => by rw [pq_upN a1, h1 a a2]⟩
  · rw [f_J4_append_bf812, f_J5_append_c97b9, rc_lt, qs_sz hv, pq_bd, rc_lt, h.2.1, ← Int32.ofNat_add, qs_ens h.1 hl, pq_bd, qs_lat h.1, pq_bd, if_neg (by decide), pq_b hX, e, pq_bd, rc_lt, pq_bd]
  · refine qs_set h _ (pq_dgb hv) hl ?_ ?_ (fun j d hd => ?_) (fun k hk => ?_)
    · rw [pq_upE, pq_udN (by decide), h1 _ (by omega)]; exact h.1
    · rw [pq_upE, pq_udE]
    · rw [pq_upN (by omega)]; exact h2 j d hd
    · rw [pq_upN (by omega)]; exact h3 k hk
theorem qs_len0 (hX : pq_X rf x) (h : pq_OC σ x L) : ∃ σ', f_J4_setLength_d00df rf (x + 306) 0 σ = some ((), σ') ∧ pq_OC σ' x [] ∧ ∀ a, a ≠ x + 306 → σ' a = σ a := by
  have hl := h.2.2.1
  have hz : (0 : Int32) ≤ Int32.ofNat L.length := Int32.zero_le_ofNat_of_lt (by omega)
  have e0 := qs_ens (rf := rf) (σ := σ) (x := x) h.1 (t := 0) (by omega)
  rw [show Int32.ofNat 0 = (0 : Int32) from rfl] at e0
  by_cases hc : Int32.ofNat L.length ≤ 0
  · refine ⟨rc_up σ (x + 306) 3 0, ?_, ⟨by rw [pq_upE, pq_udN (by decide)]; exact h.1, by rw [pq_upE, pq_udE]; rfl, by simp, fun k v hv => by simp at hv⟩, fun a ha => pq_upN ha⟩
    rw [f_J4_setLength_d00df, f_J5_setLength_d00df, if_pos (by decide), e0, pq_bd, h.2.1, if_pos hz, if_pos hc, rc_lt, pq_bd]
  · refine ⟨rc_up (rc_up σ (x + 306) 2 1) (x + 306) 3 0, ?_, ⟨by rw [pq_upE, pq_udN (by decide), pq_upE, pq_udN (by decide)]; exact h.1, by rw [pq_upE, pq_udE]; rfl, by simp, fun k v hv => by simp at hv⟩, fun a ha => by rw [pq_upN ha, pq_upN ha]⟩
    rw [f_J4_setLength_d00df, f_J5_setLength_d00df, if_pos (by decide), e0, pq_bd, h.2.1, if_pos hz, if_neg hc, rc_lt, rc_lt, pq_bd]
theorem qs_lng (h : pq_OC σ x L) : f_J4_length_8abf5 rf (x + 306) σ = some (Int32.ofNat L.length, σ) := by
  rw [f_J4_length_8abf5, f_J5_length_8abf5, pq_bd, h.2.1]
/-! the reference -/
theorem qr_e1 {v : Nat} (hv : v < 1000) : (48 : Int32) + (Int32.ofNat v - Int32.ofNat v / 10 * 10) = Int32.ofNat (48 + v % 10) := by
  have := pq_md (s := v) (k := 10) (by decide) (by omega) (by decide)
  rw [show Int32.ofNat 10 = (10 : Int32) from rfl] at this
  rw [this, Int32.ofNat_add]; rfl
theorem qr_e2 {v : Nat} (hv : v < 1000) : (48 : Int32) + (Int32.ofNat v / 10 - Int32.ofNat v / 10 / 10 * 10) = Int32.ofNat (48 + v / 10 % 10) := by
  have e : Int32.ofNat v / 10 = Int32.ofNat (v / 10) := by rw [Int32.ofNat_div (by omega) (by decide)]; rfl
  rw [e, qr_e1 (by omega)]
theorem qr_e3 {v : Nat} (hv : v < 1000) : (48 : Int32) + (Int32.ofNat v / 100 - Int32.ofNat v / 100 / 10 * 10) = Int32.ofNat (48 + v / 100 % 10) := by
  have e : Int32.ofNat v / 100 = Int32.ofNat (v / 100) := by rw [Int32.ofNat_div (by omega) (by decide)]; rfl
  rw [e, qr_e1 (by omega)]
theorem qr_le {v k : Nat} (hv : v < 1000) (hk : k < 1000) : (Int32.ofNat v ≤ Int32.ofNat k) ↔ v ≤ k := pq_le (by omega) (by omega)
end PQO

theorem pq_Rf {σ σ' : rc_S} {c n p : Nat} {g : Nat → Int32} (h : pq_R σ c g n p) (hn : n ≤ 8) (hf : ∀ a, c ≤ a → a < c + 27 → σ' a = σ a) : pq_R σ' c g n p := by
  obtain ⟨⟨h0, h1, h2, h3, h4, h5, h6, h7, h8, h9, h10⟩, hm, hb, hp, hq⟩ := h
  have e0 := hf c (by omega) (by omega)
  refine ⟨⟨by rw [e0]; exact h0, by rw [hf _ (by omega) (by omega)]; exact h1, by rw [e0]; exact h2, by rw [e0]; exact h3, by rw [e0]; exact h4, by rw [e0]; exact h5, by rw [e0]; exact h6, by rw [e0]; exact h7, by rw [e0]; exact h8, by rw [e0]; exact h9, by rw [e0]; exact h10⟩, fun r hr => ?_, fun b hb' => ?_, fun j hj => ?_, fun q hq' => ?_⟩
  · rw [hf _ (by omega) (by omega)]; exact hm r hr
  · rw [hf (c + 7 + b) (by omega) (by omega)]; exact hb b hb'
  · rw [hf (c + 4) (by omega) (by omega), hf (c + 5) (by omega) (by omega)]; exact hp j hj
  · rw [hf (c + 15 + q) (by omega) (by omega)]; exact hq q hq'
section PQL
variable {rf : rc_F} {σ : rc_S} {x : Nat} {g : Nat → Int32} {n p N b : Nat} {L0 : List Nat}
theorem pq_byN (hV : pq_V g n p N) (hb : b < n) (hN : N ≤ 999) (h0 : g (16 + 6 * b) ≠ 0) : ∃ S, S ≤ 999 ∧ g (18 + 6 * b) = Int32.ofNat S := by
  obtain ⟨S, hS, e⟩ := pq_natL (n := N) (pq_vb0 hV hb h0) (pq_vby hV hb).2 (by omega)
  exact ⟨S, by omega, e⟩
theorem pq_rN (hV : pq_V g n p N) (hb : b < n) : ∃ S, S ≤ 3 ∧ g (15 + 6 * b) = Int32.ofNat S := pq_natL (n := 3) (pq_vr hV hb).1 (pq_vr hV hb).2 (by omega)

def pq_tk (g : Nat → Int32) (j : Nat) : List Nat := (if j = 0 then [] else [32]) ++ [if g (64 + 2 * j) = 1 then 116 else 109] ++ pq_dg (g (63 + 2 * j)).toNatClampNeg
theorem pq_tkl (hV : pq_V g n p N) {j : Nat} (hj : j < p) : (pq_tk g j).length ≤ (if j = 0 then 2 else 3) ∧ ∃ v, v ≤ 9 ∧ g (63 + 2 * j) = Int32.ofNat v ∧ (g (63 + 2 * j)).toNatClampNeg = v ∧ (pq_dg v).length = 1 := by
  obtain ⟨v, hv, e⟩ := pq_natL (n := 9) (pq_vpp hV hj).1 (pq_vpp hV hj).2 (by omega)
  have e2 : (g (63 + 2 * j)).toNatClampNeg = v := by rw [e, pq_cl (by omega)]
  have l := (pq_dgl v).2.2 (by omega)
  refine ⟨?_, v, hv, e, e2, l⟩
  unfold pq_tk
  rw [e2]
  by_cases h : j = 0
  · simp [h, l]
  · simp [h, l]
theorem q8_pan (hX : pq_X rf x) (hV : pq_V g n p N) (K : Int32 → rc_S → Option (Int32 × rc_S)) : ∀ (d fu i : Nat) (σ : rc_S) (L : List Nat), i + d = p → pq_R σ (x + 2) g n p → pq_OC σ x L → L.length ≤ 3 * i → ∃ σ' L', f_X8_panel_10 rf x K (fu + d + 1) (Int32.ofNat i) σ = K (Int32.ofNat p) σ' ∧ pq_OC σ' x L' ∧ L' = L ++ (List.range' i d).flatMap (pq_tk g) ∧ ∀ a, a ≠ x + 306 → a ≠ x + 307 → σ' a = σ a := by
  have hK := pq_xk hX
  have h4 := pq_vp hV
  have h8 := pq_vn hV
  intro d
  induction d with
  | zero =>
    intro fu i σ L h hR hO hl
    have hi : i = p := by omega
    subst hi
    refine ⟨σ, L, ?_, hO, by simp, fun _ _ _ => rfl⟩
    rw [f_X8_panel_10, pq_x1 hX, pq_k3 hK, pq_c1 hR, pq_v1 hV, if_pos (Int32.le_refl _)]
  | succ d ih =>
    intro fu i σ L h hR hO hl
    obtain ⟨tl, v, hv, e1, e2, e3⟩ := pq_tkl hV (show i < p by omega)
    have hni : ¬ Int32.ofNat p ≤ Int32.ofNat i := fun q => by have := (pq_le (by omega) (by omega)).mp q; omega
    have hs : (g (64 + 2 * i) = 0) ↔ ¬ g (64 + 2 * i) = 1 := by
      rcases pq_vps hV (show i < p by omega) with q | q <;> rw [q] <;> decide
    have step : ∃ σ1, (∀ (X : Option (Int32 × rc_S)), f_X8_panel_10 rf x K (fu + (d + 1) + 1) (Int32.ofNat i) σ = f_X8_panel_10 rf x K (fu + d + 1) (Int32.ofNat (i + 1)) σ1) ∧ pq_OC σ1 x (L ++ pq_tk g i) ∧ ∀ a, a ≠ x + 306 → a ≠ x + 307 → σ1 a = σ a := by
      rw [show fu + (d + 1) + 1 = (fu + d + 1) + 1 from rfl, f_X8_panel_10, pq_x1 hX, pq_k3 hK, pq_c1 hR, pq_v1 hV, if_neg hni, pq_x8 hX]
      by_cases h0 : i = 0
      · subst h0
        rw [if_pos (show Int32.ofNat 0 ≤ 0 by decide), pq_in (by omega) (by omega), pq_ck, pq_cl (by omega), pq_ks hK, pq_ps hR (by omega)]
        by_cases hc : g (64 + 2 * 0) = 1
        · obtain ⟨s1, a1, a2, a3⟩ := qs_ch hX hO (by omega) 116 (by omega)
          rw [show Int32.ofNat 116 = (116 : Int32) from rfl] at a1
          have r1 : s1 (x + 2 + 4) 0 = Int32.ofNat v := by rw [a3 _ (by omega) (by omega), pq_pp hR (by omega), e1]
          obtain ⟨s2, b1, b2, b3⟩ := qs_nm hX a2 (v := v) (by omega) (by simp; omega)
          refine ⟨s2, fun _ => ?_, ?_, fun a c1 c2 => by rw [b3 a c1 c2, a3 a c1 c2]⟩
          · rw [if_neg (fun q => hs.mp q hc), a1, pq_bd, pq_ck, pq_kp hK, r1, b1, pq_bd, rc_lt, pq_s]
          · rw [List.append_assoc] at b2
            rw [pq_tk, if_pos rfl, if_pos hc, e2]; exact b2
        · obtain ⟨s1, a1, a2, a3⟩ := qs_ch hX hO (by omega) 109 (by omega)
          rw [show Int32.ofNat 109 = (109 : Int32) from rfl] at a1
          have r1 : s1 (x + 2 + 4) 0 = Int32.ofNat v := by rw [a3 _ (by omega) (by omega), pq_pp hR (by omega), e1]
          obtain ⟨s2, b1, b2, b3⟩ := qs_nm hX a2 (v := v) (by omega) (by simp; omega)
          refine ⟨s2, fun _ => ?_, ?_, fun a c1 c2 => by rw [b3 a c1 c2, a3 a c1 c2]⟩
          · rw [if_pos (hs.mpr hc), a1, pq_bd, pq_ck, pq_kp hK, r1, b1, pq_bd, rc_lt, pq_s]
          · rw [List.append_assoc] at b2
            rw [pq_tk, if_pos rfl, if_neg hc, e2]; exact b2
      · have hi0 : ¬ Int32.ofNat i ≤ 0 := fun q => by have := (pq_le (by omega) (show 0 < 2147483648 by decide)).mp q; omega
        obtain ⟨s0, z1, z2, z3⟩ := qs_ch hX hO (by omega) 32 (by omega)
        rw [show Int32.ofNat 32 = (32 : Int32) from rfl] at z1
        have r0 : s0 (x + 2 + 5) i = g (64 + 2 * i) := by rw [z3 _ (by omega) (by omega), pq_ps hR (by omega)]
        rw [if_neg hi0, z1, pq_bd, pq_in (by omega) (by omega), pq_ck, pq_cl (by omega), pq_ks hK, r0]
        by_cases hc : g (64 + 2 * i) = 1
        · obtain ⟨s1, a1, a2, a3⟩ := qs_ch hX z2 (by simp; omega) 116 (by omega)
          rw [show Int32.ofNat 116 = (116 : Int32) from rfl] at a1
          have r1 : s1 (x + 2 + 4) i = Int32.ofNat v := by rw [a3 _ (by omega) (by omega), z3 _ (by omega) (by omega), pq_pp hR (by omega), e1]
          obtain ⟨s2, b1, b2, b3⟩ := qs_nm hX a2 (v := v) (by omega) (by simp; omega)
          refine ⟨s2, fun _ => ?_, ?_, fun a c1 c2 => by rw [b3 a c1 c2, a3 a c1 c2, z3 a c1 c2]⟩
          · rw [if_neg (fun q => hs.mp q hc), a1, pq_bd, pq_ck, pq_kp hK, r1, b1, pq_bd, rc_lt, pq_s]
          · rw [List.append_assoc, List.append_assoc] at b2
            rw [pq_tk, if_neg h0, if_pos hc, e2, List.append_assoc]; exact b2
        · obtain ⟨s1, a1, a2, a3⟩ := qs_ch hX z2 (by simp; omega) 109 (by omega)
          rw [show Int32.ofNat 109 = (109 : Int32) from rfl] at a1
          have r1 : s1 (x + 2 + 4) i = Int32.ofNat v := by rw [a3 _ (by omega) (by omega), z3 _ (by omega) (by omega), pq_pp hR (by omega), e1]
          obtain ⟨s2, b1, b2, b3⟩ := qs_nm hX a2 (v := v) (by omega) (by simp; omega)
          refine ⟨s2, fun _ => ?_, ?_, fun a c1 c2 => by rw [b3 a c1 c2, a3 a c1 c2, z3 a c1 c2]⟩
          · rw [if_pos (hs.mpr hc), a1, pq_bd, pq_ck, pq_kp hK, r1, b1, pq_bd, rc_lt, pq_s]
          · rw [List.append_assoc, List.append_assoc] at b2
            rw [pq_tk, if_neg h0, if_neg hc, e2, List.append_assoc]; exact b2
    obtain ⟨s1, e4, o1, f1⟩ := step
    have hl2 : (L ++ pq_tk g i).length ≤ 3 * (i + 1) := by
      rw [List.length_append]
      split at tl <;> omega
    obtain ⟨s2, L2, e5, o2, e6, f2⟩ := ih fu (i + 1) s1 _ (by omega) (pq_Rf hR h8 (fun a _ _ => f1 a (by omega) (by omega))) o1 hl2
    refine ⟨s2, L2, by rw [e4 none, e5], o2, ?_, fun a a1 a2 => by rw [f2 a a1 a2, f1 a a1 a2]⟩
    rw [e6, List.range'_succ, List.flatMap_cons, List.append_assoc]
end PQL

theorem pq_Vm {g : Nat → Int32} {n p N N' : Nat} (h : pq_V g n p N) (hN : N ≤ N') : pq_V g n p N' := by
  obtain ⟨h0, h1, h2, h3, h4, hm, hb, hp⟩ := h
  refine ⟨h0, h1, h2, ⟨h3.1, by have := h3.2; omega⟩, ⟨h4.1, by have := h4.2; omega⟩, hm, fun b hb' => ?_, hp⟩
  have q := hb b hb'
  exact ⟨q.1, q.2.1, ⟨q.2.2.1.1, by have := q.2.2.1.2; omega⟩, q.2.2.2⟩
section PQC
variable {rf : rc_F} {σ : rc_S} {x : Nat} {L : List Nat}
theorem qs_v1 : ∀ v, v < 128 → ((Int32.ofNat v &&& (255 : Int32)).toUInt32 % 65536).toInt32 = Int32.ofNat v ∧ ((Int32.ofNat v).toUInt32 % 65536).toInt32 = Int32.ofNat v ∧ vp_nar .char (Int32.ofNat v) = Int32.ofNat v := by decide +kernel
end PQC

theorem pq_Rg {σ : rc_S} {c n p : Nat} {g g' : Nat → Int32} (h : pq_R σ c g n p) (hn : n ≤ 8) (hp : p ≤ 4) (e : ∀ k, k < 107 → g' k = g k) : pq_R σ c g' n p := by
  obtain ⟨⟨h0, h1, h2, h3, h4, h5, h6, h7, h8, h9, h10⟩, hm, hb, hq, hr⟩ := h
  refine ⟨⟨by rw [e _ (by omega)]; exact h0, by rw [e _ (by omega)]; exact h1, by rw [e _ (by omega)]; exact h2, by rw [e _ (by omega)]; exact h3, by rw [e _ (by omega)]; exact h4, by rw [e _ (by omega)]; exact h5, by rw [e _ (by omega)]; exact h6, by rw [e _ (by omega)]; exact h7, by rw [e _ (by omega)]; exact h8, by rw [e _ (by omega)]; exact h9, by rw [e _ (by omega)]; exact h10⟩, fun r hr' => ?_, fun b hb' => ?_, fun j hj => ?_, fun q hq' => ?_⟩
  · rw [e _ (by omega)]; exact hm r hr'
  · rw [e _ (by omega), e _ (by omega), e _ (by omega), e _ (by omega), e _ (by omega), e _ (by omega)]; exact hb b hb'
  · rw [e _ (by omega), e _ (by omega)]; exact hq j hj
  · rw [e _ (by omega), e _ (by omega), e _ (by omega)]; exact hr q hq'
theorem pq_Vg {n p N : Nat} {g g' : Nat → Int32} (h : pq_V g n p N) (e : ∀ k, k < 107 → g' k = g k) : pq_V g' n p N := by
  obtain ⟨⟨h0, hn⟩, ⟨h1, hp⟩, h2, h3, h4, hm, hb, hq⟩ := h
  have e3 := e 3 (by omega)
  refine ⟨⟨by rw [e _ (by omega)]; exact h0, hn⟩, ⟨by rw [e _ (by omega)]; exact h1, hp⟩, by rw [e _ (by omega)]; exact h2, by rw [e3]; exact h3, by rw [e _ (by omega)]; exact h4, fun r hr => ?_, fun b hb' => ?_, fun j hj => ?_⟩
  · rw [e _ (by omega)]; exact hm r hr
  · rw [e3, e (15 + 6 * b) (by omega), e (16 + 6 * b) (by omega), e (17 + 6 * b) (by omega), e (18 + 6 * b) (by omega), e (19 + 6 * b) (by omega), e (20 + 6 * b) (by omega)]; exact hb b hb'
  · rw [e _ (by omega), e _ (by omega)]; exact hq j hj
section PQD
variable {rf : rc_F} {c1 c2 m : Nat}
theorem qc_b {σ : rc_S} {a b : Nat} (h : b ≠ a) : ∃ s, f_X0_copy rf a b σ = some ((), s) ∧ (∀ q, q ≠ a → s q = σ q) ∧ ∀ k, k < 6 → s a k = σ b k := by
  refine ⟨rc_up (rc_up (rc_up (rc_up (rc_up (rc_up σ a 0 (σ b 0)) a 1 (σ b 1)) a 2 (σ b 2)) a 3 (σ b 3)) a 4 (σ b 4)) a 5 (σ b 5), ?_, fun q hq => by simp only [pq_upN hq], fun k hk => ?_⟩
  · simp only [f_X0_copy, f_X0_copyVintage, rc_lt, pq_bd, pq_upN h]
  · match k, hk with
    | 0, _ => simp [pq_upE, upd]
    | 1, _ => simp [pq_upE, upd]
    | 2, _ => simp [pq_upE, upd]
    | 3, _ => simp [pq_upE, upd]
    | 4, _ => simp [pq_upE, upd]
    | 5, _ => simp [pq_upE, upd]
    | k + 6, hk => omega
theorem qc_q {σ : rc_S} {a b : Nat} (h : b ≠ a) : ∃ s, f_X4_copy rf a b σ = some ((), s) ∧ (∀ q, q ≠ a → s q = σ q) ∧ ∀ k, k < 3 → s a k = σ b k := by
  refine ⟨rc_up (rc_up (rc_up σ a 0 (σ b 0)) a 1 (σ b 1)) a 2 (σ b 2), ?_, fun q hq => by simp only [pq_upN hq], fun k hk => ?_⟩
  · simp only [f_X4_copy, rc_lt, pq_bd, pq_upN h]
  · match k, hk with
    | 0, _ => simp [pq_upE, upd]
    | 1, _ => simp [pq_upE, upd]
    | 2, _ => simp [pq_upE, upd]
    | k + 3, hk => omega

theorem qc_bs (hK1 : pq_K rf c1) (hK2 : pq_K rf c2) (hd : c1 + 27 ≤ c2 ∨ c2 + 27 ≤ c1) : ∀ (d fu i : Nat) (σ : rc_S), i + d = 8 → ∃ s, (∀ K : Int32 → rc_S → Option (Unit × rc_S), f_X1_copy_27 rf c1 c2 K (fu + d + 1) (Int32.ofNat i) σ = K (Int32.ofNat 8) s) ∧ (∀ a, (a < c1 + 7 ∨ c1 + 15 ≤ a) → s a = σ a) ∧ (∀ b, i ≤ b → b < 8 → ∀ k, k < 6 → s (c1 + 7 + b) k = σ (c2 + 7 + b) k) ∧ ∀ b, b < i → s (c1 + 7 + b) = σ (c1 + 7 + b) := by
  intro d
  induction d with
  | zero =>
    intro fu i σ h
    have hi : i = 8 := by omega
    subst hi
    refine ⟨σ, fun K => ?_, fun _ _ => rfl, fun b b1 b2 => by omega, fun _ _ => rfl⟩
    rw [f_X1_copy_27, if_pos (by decide)]
  | succ d ih =>
    intro fu i σ h
    have hni : (8 ≤ i) = False := by simp; omega
    obtain ⟨s1, e1, f1, g1⟩ := qc_b (rf := rf) (σ := σ) (a := c1 + 7 + i) (b := c2 + 7 + i) (by omega)
    obtain ⟨s2, e2, f2, g2, h2⟩ := ih fu (i + 1) s1 (by omega)
    refine ⟨s2, fun K => ?_, fun a ha => by rw [f2 a ha, f1 a (by omega)], fun b b1 b2 k hk => ?_, fun b hb => by rw [h2 b (by omega), f1 _ (by omega)]⟩
    · rw [show fu + (d + 1) + 1 = (fu + d + 1) + 1 from rfl, f_X1_copy_27]
      simp (disch := omega) only [pq_le8, hni, if_false, pq_in, pq_ck, pq_cl, pq_k1 hK1, pq_k1 hK2, pq_kb hK1, pq_kb hK2, e1, pq_bd, rc_lt, pq_s]
      exact e2 K
    · by_cases hb : b = i
      · subst hb
        rw [h2 b (by omega)]; exact g1 k hk
      · rw [g2 b (by omega) b2 k hk, f1 _ (by omega)]
theorem qc_qs (hK1 : pq_K rf c1) (hK2 : pq_K rf c2) (hd : c1 + 27 ≤ c2 ∨ c2 + 27 ≤ c1) : ∀ (d fu i : Nat) (σ : rc_S), i + d = 12 → ∃ s, (∀ K : Int32 → rc_S → Option (Unit × rc_S), f_X1_copy_56 rf c1 c2 K (fu + d + 1) (Int32.ofNat i) σ = K (Int32.ofNat 12) s) ∧ (∀ a, (a < c1 + 15 ∨ c1 + 27 ≤ a) → s a = σ a) ∧ (∀ b, i ≤ b → b < 12 → ∀ k, k < 3 → s (c1 + 15 + b) k = σ (c2 + 15 + b) k) ∧ ∀ b, b < i → s (c1 + 15 + b) = σ (c1 + 15 + b) := by
  intro d
  induction d with
  | zero =>
    intro fu i σ h
    have hi : i = 12 := by omega
    subst hi
    refine ⟨σ, fun K => ?_, fun _ _ => rfl, fun b b1 b2 => by omega, fun _ _ => rfl⟩
    rw [f_X1_copy_56, if_pos (by decide)]
  | succ d ih =>
    intro fu i σ h
    have hni : (12 ≤ i) = False := by simp; omega
    obtain ⟨s1, e1, f1, g1⟩ := qc_q (rf := rf) (σ := σ) (a := c1 + 15 + i) (b := c2 + 15 + i) (by omega)
    obtain ⟨s2, e2, f2, g2, h2⟩ := ih fu (i + 1) s1 (by omega)
    refine ⟨s2, fun K => ?_, fun a ha => by rw [f2 a ha, f1 a (by omega)], fun b b1 b2 k hk => ?_, fun b hb => by rw [h2 b (by omega), f1 _ (by omega)]⟩
    · rw [show fu + (d + 1) + 1 = (fu + d + 1) + 1 from rfl, f_X1_copy_56]
      simp (disch := omega) only [pq_le12, hni, if_false, pq_in, pq_ck, pq_cl, pq_k4 hK1, pq_k4 hK2, pq_kr hK1, pq_kr hK2, e1, pq_bd, rc_lt, pq_s]
      exact e2 K
    · by_cases hb : b = i
      · subst hb
        rw [h2 b (by omega)]; exact g1 k hk
      · rw [g2 b (by omega) b2 k hk, f1 _ (by omega)]
theorem qc_m (hK1 : pq_K rf c1) (hK2 : pq_K rf c2) (hd : c1 + 27 ≤ c2 ∨ c2 + 27 ≤ c1) : ∀ (d fu i : Nat) (σ : rc_S), i + d = 4 → ∃ s, (∀ K : Int32 → rc_S → Option (Unit × rc_S), f_X1_copy_2 rf c1 c2 K (fu + d + 1) (Int32.ofNat i) σ = K (Int32.ofNat 4) s) ∧ (∀ a, a ≠ c1 + 1 → s a = σ a) ∧ (∀ k, i ≤ k → k < 4 → s (c1 + 1) (k) = σ (c2 + 1) (k)) ∧ ∀ k, (∀ j, i ≤ j → j < 4 → k ≠ j) → s (c1 + 1) k = σ (c1 + 1) k := by
  intro d
  induction d with
  | zero =>
    intro fu i σ h 
    have hi : i = 4 := by omega
    subst hi
    refine ⟨σ, fun K => ?_, fun _ _ => rfl, fun b b1 b2 => by omega, fun _ _ => rfl⟩
    rw [f_X1_copy_2, if_pos (by decide)]
  | succ d ih =>
    intro fu i σ h 
    have hni : (4 ≤ i) = False := by simp; omega
    obtain ⟨s2, e2, f2, g2, h2⟩ := ih fu (i + 1) (rc_up σ (c1 + 1) (i) (σ (c2 + 1) (i))) (by omega) 
    refine ⟨s2, fun K => ?_, fun a ha => by rw [f2 a ha, pq_upN ha], fun k k1 k2 => ?_, fun k hk => ?_⟩
    · rw [show fu + (d + 1) + 1 = (fu + d + 1) + 1 from rfl, f_X1_copy_2]
      simp (disch := omega) only [pq_le4, hni, if_false, pq_in, pq_ck, pq_cl, pq_k0 hK1, pq_k0 hK2, rc_lt, pq_s]
      exact e2 K
    · by_cases hb : k = i
      · subst hb
        rw [h2 _ (fun j j1 j2 => by omega), pq_upE, pq_udE]
      · rw [g2 k (by omega) k2]
        rw [pq_upN (by omega)]
    · rw [h2 k (fun j j1 j2 => hk j (by omega) j2), pq_upE, pq_udN (hk i (Nat.le_refl i) (by omega))]
theorem qc_p (hK1 : pq_K rf c1) (hK2 : pq_K rf c2) (hd : c1 + 27 ≤ c2 ∨ c2 + 27 ≤ c1) : ∀ (d fu i : Nat) (σ : rc_S), i + d = 4 → ∃ s, (∀ K : Int32 → rc_S → Option (Unit × rc_S), f_X3_copy_2 rf (c1 + 3) (c2 + 3) K (fu + d + 1) (Int32.ofNat i) σ = K (Int32.ofNat 4) s) ∧ (∀ a, a ≠ c1 + 4 → a ≠ c1 + 5 → s a = σ a) ∧ (∀ k, i ≤ k → k < 4 → s (c1 + 4) k = σ (c2 + 4) k ∧ s (c1 + 5) k = vp_nar .boolean (σ (c2 + 5) k)) ∧ ∀ k, k < i → s (c1 + 4) k = σ (c1 + 4) k ∧ s (c1 + 5) k = σ (c1 + 5) k := by
  intro d
  induction d with
  | zero =>
    intro fu i σ h
    have hi : i = 4 := by omega
    subst hi
    refine ⟨σ, fun K => ?_, fun _ _ _ => rfl, fun b b1 b2 => by omega, fun _ _ => ⟨rfl, rfl⟩⟩
    rw [f_X3_copy_2, if_pos (by decide)]
  | succ d ih =>
    intro fu i σ h
    have hni : (4 ≤ i) = False := by simp; omega
    obtain ⟨s2, e2, f2, g2, h2⟩ := ih fu (i + 1) (rc_up (rc_up σ (c1 + 4) i (σ (c2 + 4) i)) (c1 + 5) i (vp_nar .boolean (σ (c2 + 5) i))) (by omega)
    refine ⟨s2, fun K => ?_, fun a ha hb => by rw [f2 a ha hb, pq_upN hb, pq_upN ha], fun k k1 k2 => ?_, fun k hk => ?_⟩
    · rw [show fu + (d + 1) + 1 = (fu + d + 1) + 1 from rfl, f_X3_copy_2]
      simp (disch := omega) only [pq_le4, hni, if_false, pq_in, pq_ck, pq_cl, pq_kp hK1, pq_kp hK2, pq_ks hK1, pq_ks hK2, rc_lt, pq_s]
      rw [show rc_up σ (c1 + 4) i (σ (c2 + 4) i) (c2 + 5) = σ (c2 + 5) from pq_upN (by omega)]
      exact e2 K
    · by_cases hb : k = i
      · subst hb
        have q := h2 k (by omega)
        rw [q.1, q.2, pq_upN (by omega), pq_upE, pq_udE, pq_upE, pq_udE]
        exact ⟨rfl, rfl⟩
      · have q := g2 k (by omega) k2
        rw [q.1, q.2, pq_upN (by omega), pq_upN (by omega), pq_upN (by omega), pq_upN (by omega)]
        exact ⟨rfl, rfl⟩
    · have q := h2 k (by omega)
      rw [q.1, q.2, pq_upN (by omega), pq_upE, pq_udN (by omega), pq_upE, pq_udN (by omega), pq_upN (by omega)]
      exact ⟨rfl, rfl⟩
theorem pq_nb01 {v : Int32} (h : v = 0 ∨ v = 1) : vp_nar .boolean v = v := by rcases h with h | h <;> subst h <;> decide
/-- a cellar's copy -/
theorem qc (hK1 : pq_K rf c1) (hK2 : pq_K rf c2) (hd : c1 + 27 ≤ c2 ∨ c2 + 27 ≤ c1) (σ : rc_S) : ∃ s, f_X1_copy rf c1 c2 σ = some ((), s) ∧ (∀ a, (a < c1 ∨ c1 + 27 ≤ a) → s a = σ a) ∧ ∀ g n p N, pq_R σ c2 g n p → pq_V g n p N → pq_R s c1 g n p := by
  obtain ⟨s1, e1, f1, g1, -⟩ := qc_m hK1 hK2 hd 4 (99999 - 4) 0 σ (by omega)
  obtain ⟨s2, e2, f2, g2, -⟩ := qc_bs hK1 hK2 hd 8 (99999 - 8) 0 s1 (by omega)
  obtain ⟨s3, e3, f3, g3, -⟩ := qc_qs hK1 hK2 hd 12 (99999 - 12) 0 s2 (by omega)
  obtain ⟨s4, e4, f4, g4, -⟩ := qc_p hK1 hK2 hd 4 (99999 - 4) 0 s3 (by omega)
  rw [← pq_fu _ (by omega), show Int32.ofNat 0 = (0 : Int32) from rfl] at e1 e2 e3 e4
  have h2 : s4 c2 = σ c2 := by rw [f4 _ (by omega) (by omega), f3 _ (by omega), f2 _ (by omega), f1 _ (by omega)]
  have h23 : s4 (c2 + 3) = σ (c2 + 3) := by rw [f4 _ (by omega) (by omega), f3 _ (by omega), f2 _ (by omega), f1 _ (by omega)]
  have n1 : c2 ≠ c1 := by omega
  have n2 : c2 ≠ c1 + 3 := by omega
  have n3 : c1 ≠ c1 + 3 := by omega
  have k1 : ∀ a, a ≠ c1 → a ≠ c1 + 3 → (rc_up (rc_up (rc_up (rc_up (rc_up (rc_up (rc_up (rc_up (rc_up (rc_up (rc_up s4 (c1 + 3) 2 (σ (c2 + 3) 2)) c1 2 (σ c2 2)) c1 5 (σ c2 5)) c1 6 (σ c2 6)) c1 7 (σ c2 7)) c1 8 (σ c2 8)) c1 9 (σ c2 9)) c1 10 (σ c2 10)) c1 11 (σ c2 11)) c1 12 (σ c2 12)) c1 13 (σ c2 13)) a = s4 a := fun a a1 a2 => by simp only [pq_upN a1, pq_upN a2]
  refine ⟨rc_up (rc_up (rc_up (rc_up (rc_up (rc_up (rc_up (rc_up (rc_up (rc_up (rc_up s4 (c1 + 3) 2 (σ (c2 + 3) 2)) c1 2 (σ c2 2)) c1 5 (σ c2 5)) c1 6 (σ c2 6)) c1 7 (σ c2 7)) c1 8 (σ c2 8)) c1 9 (σ c2 9)) c1 10 (σ c2 10)) c1 11 (σ c2 11)) c1 12 (σ c2 12)) c1 13 (σ c2 13), ?_, fun a ha => by rw [k1 a (by omega) (by omega), f4 a (by omega) (by omega), f3 a (by omega), f2 a (by omega), f1 a (by omega)], fun g n p N hR hV => ?_⟩
  · rw [f_X1_copy, e1, e2, e3, pq_k3 hK1, pq_k3 hK2, f_X3_copy, e4, rc_lt, h23, pq_bd]
    simp only [f_X1_copyCounts, rc_lt, pq_bd, pq_upN n1, pq_upN n2, h2]
  · have h8 := pq_vn hV
    have h4 := pq_vp hV
    refine ⟨⟨?_, ?_, ?_, ?_, ?_, ?_, ?_, ?_, ?_, ?_, ?_⟩, fun r hr => ?_, fun b hb => ?_, fun j hj => ?_, fun q hq => ?_⟩
    · simp [pq_upE, upd, pq_c0 hR]
    · simp only [pq_upN (show c1 + 3 ≠ c1 by omega), pq_upE, pq_udE]; exact pq_c1 hR
    · simp [pq_upE, upd, pq_c2 hR]
    · simp [pq_upE, upd, pq_c3 hR]
    · simp [pq_upE, upd, pq_c4 hR]
    · simp [pq_upE, upd, pq_c5 hR]
    · simp [pq_upE, upd, pq_c6 hR]
    · simp [pq_upE, upd, pq_c7 hR]
    · simp [pq_upE, upd, pq_c8 hR]
    · simp [pq_upE, upd, pq_c9 hR]
    · simp [pq_upE, upd, pq_c10 hR]
    · rw [k1 _ (by omega) (by omega), f4 _ (by omega) (by omega), f3 _ (by omega), f2 _ (by omega), g1 r (by omega) hr]; exact pq_cm hR hr
    · have hbk : ∀ k, k < 6 → s4 (c1 + 7 + b) k = σ (c2 + 7 + b) k := fun k hk => by
        rw [f4 _ (by omega) (by omega), f3 _ (by omega), g2 b (by omega) (by omega) k hk, f1 _ (by omega)]
      rw [k1 _ (by omega) (by omega), hbk 0 (by omega), hbk 1 (by omega), hbk 2 (by omega), hbk 3 (by omega), hbk 5 (by omega), hbk 4 (by omega)]
      exact ⟨pq_b0 hR hb, pq_b1 hR hb, pq_b2 hR hb, pq_b3 hR hb, pq_b4 hR hb, pq_b5 hR hb⟩
    · have q := g4 j (by omega) (by omega)
      rw [k1 _ (by omega) (by omega), k1 _ (by omega) (by omega), q.1, q.2, f3 _ (by omega), f2 _ (by omega), f1 _ (by omega), f3 _ (by omega), f2 _ (by omega), f1 _ (by omega), pq_pp hR hj, pq_ps hR hj]
      exact ⟨rfl, pq_nb01 (pq_vps hV hj)⟩
    · have hqk : ∀ k, k < 3 → s4 (c1 + 15 + q) k = σ (c2 + 15 + q) k := fun k hk => by
        rw [f4 _ (by omega) (by omega), g3 q (by omega) (by omega) k hk, f2 _ (by omega), f1 _ (by omega)]
      rw [k1 _ (by omega) (by omega), hqk 0 (by omega), hqk 1 (by omega), hqk 2 (by omega)]
      exact ⟨pq_q0 hR hq, pq_q1 hR hq, pq_q2 hR hq⟩
end PQD

