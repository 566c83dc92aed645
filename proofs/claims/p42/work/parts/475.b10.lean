/-! BUILDING TEXTS -/
def pB (σ : rc_S) (o b : Nat) (L : List Nat) : Prop := σ o 1 = 0 ∧ σ o 3 = Int32.ofNat L.length ∧ L.length ≤ 16 ∧ ∀ k v, L[k]? = some v → v < 128 ∧ σ b k = Int32.ofNat v
def pTx (σ : rc_S) (o b : Nat) (L : List Nat) : Prop := σ o 1 = 0 ∧ ∀ k v, L[k]? = some v → v < 128 ∧ σ b k = Int32.ofNat v
theorem pb_fit : ∀ v, v < 128 → fits .byte (.int (Int32.ofNat v)) = true := by decide +kernel
theorem pb_sh0 : ∀ n, n < 17 → (Int32.ofNat n) >>> ((0 : Int32) &&& 31) = Int32.ofNat n ∧ (Int32.ofNat n) <<< ((0 : Int32) &&& 31) = Int32.ofNat n := by decide
theorem pb_cpk {F : Nat → Int32} {dp n n0 n1 : Nat} (h1 : n ≤ n0) (h2 : dp + n ≤ n1) (hdp : dp < 17) (hn : n < 17) (hF : ∀ i, i < n → ∃ v, v < 128 ∧ F i = Int32.ofNat v) : rc_cpk F 0 (Int32.ofNat dp) (Int32.ofNat n) n0 n1 = true := by
  unfold rc_cpk
  simp only [Bool.and_eq_true, Bool.not_eq_true', decide_eq_false_iff_not, decide_eq_true_eq]
  rw [pq_cl (show dp < 2147483648 by omega), pq_cl (show n < 2147483648 by omega), show (0 : Int32).toNatClampNeg = 0 from by decide]
  refine ⟨by decide, pb_n0 (by omega), pb_n0 (by omega), by omega, by omega, List.all_eq_true.mpr (fun i hi => ?_)⟩
  obtain ⟨v, hv, e⟩ := hF i (List.mem_range.mp hi)
  rw [Nat.zero_add, e]
  exact pb_fit v hv
section PB10
variable {rf : rc_F} {σ σ' : rc_S} {o b s bs : Nat} {L ds : List Nat}
theorem pb_ens (h : σ o 1 = 0) {t : Nat} (ht : t ≤ 16) : f_J5_ensureCapacityInternal_d00df rf o (Int32.ofNat t) σ = some ((), σ) := by
  rw [f_J5_ensureCapacityInternal_d00df, rc_lt, h, show (16 : Int32) >>> ((0 : Int32) &&& 31) = 16 from by decide, if_pos (qs_n6 t ht)]
theorem pb_put (h : pB σ o b L) (hob : o ≠ b) {F : Nat → Int32} (hl : L.length + ds.length ≤ 16) (hF : ∀ j v, ds[j]? = some v → v < 128 ∧ F j = Int32.ofNat v) : pB (rc_up (rc_row σ b (va_cpy F (σ b) 0 L.length ds.length)) o 3 (Int32.ofNat (L.length + ds.length))) o b (L ++ ds) := by
  refine ⟨?_, ?_, by rw [List.length_append]; exact hl, fun k v hv => ?_⟩
  · rw [pq_upE, pq_udN (by decide)]; unfold rc_row; rw [if_neg hob]; exact h.1
  · rw [pq_upE, pq_udE, List.length_append]
  · rw [pq_upN (Ne.symm hob)]
    unfold rc_row
    rw [if_pos rfl]
    unfold va_cpy
    by_cases hkl : k < L.length
    · rw [List.getElem?_append_left hkl] at hv
      rw [if_neg (by omega)]
      exact h.2.2.2 k v hv
    · rw [List.getElem?_append_right (by omega)] at hv
      have hj : k - L.length < ds.length := (List.getElem?_eq_some_iff.mp hv).1
      rw [if_pos (by omega), Nat.zero_add]
      exact hF _ v hv
theorem pb_fr {v : Int32} {r : Nat → Int32} : ∀ a, a ≠ o → a ≠ b → rc_up (rc_row σ b r) o 3 v a = σ a := fun a h1 h2 => by rw [pq_upN h1]; exact if_neg h2
theorem pb_num (hb : rf o 0 = b) (hob : o ≠ b) (h : pB σ o b L) {v : Nat} (hv : v < 1000) (hl : L.length + (pq_dg v).length ≤ 16) : ∃ σ', f_J4_append_bf812 rf o (Int32.ofNat v) σ = some (o, σ') ∧ pB σ' o b (L ++ pq_dg v) ∧ ∀ a, a ≠ o → a ≠ b → σ' a = σ a := by
  obtain ⟨r, σ1, e, h1, h2, h3⟩ := qs_gc (rf := rf) (σ := σ) (q := b) hv hl
  refine ⟨rc_up σ1 o 3 (Int32.ofNat (L.length + (pq_dg v).length)), ?_, ⟨?_, ?_, by rw [List.length_append]; exact hl, fun k d hd => ?_⟩, fun a a1 a2 => by rw [pq_upN a1, h1 a a2]⟩
  · rw [f_J4_append_bf812, f_J5_append_c97b9, rc_lt, qs_sz hv, pq_bd, rc_lt, h.2.1, ← Int32.ofNat_add, pb_ens h.1 hl, pq_bd, f_J5_isLatin1_aae02, if_pos h.1, pq_bd, if_neg (by decide), hb, e, pq_bd, rc_lt, pq_bd]
  · rw [pq_upE, pq_udN (by decide), h1 _ hob]; exact h.1
  · rw [pq_upE, pq_udE, List.length_append]
  · rw [pq_upN (Ne.symm hob)]
    by_cases hkl : k < L.length
    · rw [List.getElem?_append_left hkl] at hd
      rw [h3 k hkl]
      exact h.2.2.2 k d hd
    · rw [List.getElem?_append_right (by omega)] at hd
      refine ⟨pq_dgb hv d (List.mem_of_getElem? hd), ?_⟩
      have := h2 _ _ hd
      rw [show L.length + (k - L.length) = k by omega] at this
      exact this
theorem pb_con (hb : rf o 0 = b) (hob : o ≠ b) (h : pB σ o b L) {r : Nat} (hl : L.length + ds.length ≤ 16) (e2 : rc_len.getD r 0 = ds.length) (hF : ∀ j v, ds[j]? = some v → v < 128 ∧ (rc_byt.getD r []).getD j 0 = Int32.ofNat v) : ∃ σ', f_J4_append_15ec4_c rf o r σ = some (o, σ') ∧ pB σ' o b (L ++ ds) ∧ ∀ a, a ≠ o → a ≠ b → σ' a = σ a := by
  have hs := (pb_sh0 ds.length (by omega)).1
  have hs2 := (pb_sh0 L.length (by omega)).2
  have ck := pb_cpk (F := fun j => (rc_byt.getD r []).getD j 0) (dp := L.length) (n := ds.length) (n0 := ds.length) (n1 := 16) (Nat.le_refl _) hl (by omega) (by omega) (fun i hi => ⟨_, hF i _ (List.getElem?_eq_getElem hi)⟩)
  refine ⟨_, ?_, pb_put h hob hl hF, pb_fr⟩
  rw [f_J4_append_15ec4_c, f_J5_append_cf1ce_c, f_J0_length_8abf5, f_J0_coder_7d493, pq_bd, e2, hs, pq_bd, h.2.1, ← Int32.ofNat_add, pb_ens h.1 hl, pq_bd, f_J5_putStringAt_47b60_c, f_J5_inflateIfNeededFor_a7421_c, f_J0_coder_7d493, pq_bd, if_pos h.1, pq_bd, f_J0_getBytes_840e7_c, f_J0_coder_7d493, pq_bd, if_pos h.1.symm, hb, h.1, h.2.1, hs2, e2, ck, pq_ck, rc_lt, pq_bd, pq_bd, rc_lt, pq_bd, show (0 : Int32).toNatClampNeg = 0 from by decide, pq_cl (show L.length < 2147483648 by omega), pq_cl (show ds.length < 2147483648 by omega)]
  unfold rc_row
  rw [if_neg hob, h.2.1, ← Int32.ofNat_add]

theorem pb_len_12 (h : pTx σ s bs ds) : f_J0_length_8abf5_12 rf s σ = some (2, σ) := by
  rw [f_J0_length_8abf5_12, f_J0_coder_7d493_12, h.1, pq_cd (by decide), pq_bd, show (2 : Int32) >>> ((0 : Int32) &&& 31) = 2 from by decide]
theorem pb_chr_12 (hb : rf s 0 = bs) (h : pTx σ s bs ds) (hl : ds.length = 2) {k v : Nat} (hv : ds[k]? = some v) : f_J0_charAt_5068e_12 rf s (Int32.ofNat k) σ = some (Int32.ofNat v, σ) := by
  have hk : k < 2 := by rw [← hl]; exact (List.getElem?_eq_some_iff.mp hv).1
  obtain ⟨v1, e⟩ := h.2 k v hv
  have q := qs_v1 v v1
  rw [f_J0_charAt_5068e_12, f_J0_isLatin1_aae02_12, if_pos h.1, pq_bd, if_neg (by decide), f_J1_charAt_3b067_12, f_J0_checkIndex_df160, f_J3_checkIndex_8e157, if_neg (pb_n0 (by omega)), if_pos (show Int32.ofNat k < (2 : Int32) from (pq_lt (m := 2) (by omega) (by decide)).mpr hk), pq_bd, pq_bd, pq_in hk (by decide), pq_ck, pq_cl (show k < 2147483648 by omega), hb, e, q.1, pq_cd q.2.2, pq_bd, pq_cd q.2.2]

theorem pb_str_12 (hb : rf o 0 = b) (hob : o ≠ b) (h : pB σ o b L) (hs : rf s 0 = bs) (hsb : bs ≠ b) (hso : s ≠ b) (hso2 : s ≠ o) (ht : pTx σ s bs ds) (hn : ds.length = 2) (hl : L.length + ds.length ≤ 16) : ∃ σ', f_J4_append_15ec4_12 rf o s σ = some (o, σ') ∧ pB σ' o b (L ++ ds) ∧ ∀ a, a ≠ o → a ≠ b → σ' a = σ a := by
  have hs2 := (pb_sh0 L.length (by omega)).2
  have ck := pb_cpk (F := σ bs) (dp := L.length) (n := ds.length) (n0 := 2) (n1 := 16) (by omega) hl (by omega) (by omega) (fun i hi => ⟨_, ht.2 i _ (List.getElem?_eq_getElem hi)⟩)
  rw [hn, show Int32.ofNat 2 = (2 : Int32) from rfl] at ck
  have e : (2 : Int32).toNatClampNeg = ds.length := by rw [hn]; decide
  have e9 : (2 : Int32) = Int32.ofNat ds.length := by rw [hn]; rfl
  refine ⟨_, ?_, pb_put h hob hl ht.2, pb_fr⟩
  rw [f_J4_append_15ec4_12, f_J5_append_cf1ce_12, pb_len_12 ht, pq_bd, h.2.1, show Int32.ofNat L.length + (2 : Int32) = Int32.ofNat (L.length + ds.length) by rw [Int32.ofNat_add, ← e9], pb_ens h.1 hl, pq_bd, f_J5_putStringAt_47b60_12, f_J5_inflateIfNeededFor_a7421_12, f_J0_coder_7d493_12, ht.1, pq_cd (by decide), pq_bd, if_pos h.1, pq_bd, f_J0_getBytes_840e7_12, f_J0_coder_7d493_12, ht.1, pq_cd (by decide), pq_bd, if_pos h.1.symm, hb, hs, h.1, h.2.1, hs2, ck, pq_ck, rc_lt, pq_bd, pq_bd, rc_lt, pq_bd, show (0 : Int32).toNatClampNeg = 0 from by decide, pq_cl (show L.length < 2147483648 by omega), e]
  unfold rc_row
  rw [if_neg hob, h.2.1, e9, ← Int32.ofNat_add]

theorem pb_len_13 (h : pTx σ s bs ds) : f_J0_length_8abf5_13 rf s σ = some (4, σ) := by
  rw [f_J0_length_8abf5_13, f_J0_coder_7d493_13, h.1, pq_cd (by decide), pq_bd, show (4 : Int32) >>> ((0 : Int32) &&& 31) = 4 from by decide]
theorem pb_chr_13 (hb : rf s 0 = bs) (h : pTx σ s bs ds) (hl : ds.length = 4) {k v : Nat} (hv : ds[k]? = some v) : f_J0_charAt_5068e_13 rf s (Int32.ofNat k) σ = some (Int32.ofNat v, σ) := by
  have hk : k < 4 := by rw [← hl]; exact (List.getElem?_eq_some_iff.mp hv).1
  obtain ⟨v1, e⟩ := h.2 k v hv
  have q := qs_v1 v v1
  rw [f_J0_charAt_5068e_13, f_J0_isLatin1_aae02_13, if_pos h.1, pq_bd, if_neg (by decide), f_J1_charAt_3b067_13, f_J0_checkIndex_df160, f_J3_checkIndex_8e157, if_neg (pb_n0 (by omega)), if_pos (show Int32.ofNat k < (4 : Int32) from (pq_lt (m := 4) (by omega) (by decide)).mpr hk), pq_bd, pq_bd, pq_in hk (by decide), pq_ck, pq_cl (show k < 2147483648 by omega), hb, e, q.1, pq_cd q.2.2, pq_bd, pq_cd q.2.2]

theorem pb_str_13 (hb : rf o 0 = b) (hob : o ≠ b) (h : pB σ o b L) (hs : rf s 0 = bs) (hsb : bs ≠ b) (hso : s ≠ b) (hso2 : s ≠ o) (ht : pTx σ s bs ds) (hn : ds.length = 4) (hl : L.length + ds.length ≤ 16) : ∃ σ', f_J4_append_15ec4_13 rf o s σ = some (o, σ') ∧ pB σ' o b (L ++ ds) ∧ ∀ a, a ≠ o → a ≠ b → σ' a = σ a := by
  have hs2 := (pb_sh0 L.length (by omega)).2
  have ck := pb_cpk (F := σ bs) (dp := L.length) (n := ds.length) (n0 := 4) (n1 := 16) (by omega) hl (by omega) (by omega) (fun i hi => ⟨_, ht.2 i _ (List.getElem?_eq_getElem hi)⟩)
  rw [hn, show Int32.ofNat 4 = (4 : Int32) from rfl] at ck
  have e : (4 : Int32).toNatClampNeg = ds.length := by rw [hn]; decide
  have e9 : (4 : Int32) = Int32.ofNat ds.length := by rw [hn]; rfl
  refine ⟨_, ?_, pb_put h hob hl ht.2, pb_fr⟩
  rw [f_J4_append_15ec4_13, f_J5_append_cf1ce_13, pb_len_13 ht, pq_bd, h.2.1, show Int32.ofNat L.length + (4 : Int32) = Int32.ofNat (L.length + ds.length) by rw [Int32.ofNat_add, ← e9], pb_ens h.1 hl, pq_bd, f_J5_putStringAt_47b60_13, f_J5_inflateIfNeededFor_a7421_13, f_J0_coder_7d493_13, ht.1, pq_cd (by decide), pq_bd, if_pos h.1, pq_bd, f_J0_getBytes_840e7_13, f_J0_coder_7d493_13, ht.1, pq_cd (by decide), pq_bd, if_pos h.1.symm, hb, hs, h.1, h.2.1, hs2, ck, pq_ck, rc_lt, pq_bd, pq_bd, rc_lt, pq_bd, show (0 : Int32).toNatClampNeg = 0 from by decide, pq_cl (show L.length < 2147483648 by omega), e]
  unfold rc_row
  rw [if_neg hob, h.2.1, e9, ← Int32.ofNat_add]

theorem pb_len_14 (h : pTx σ s bs ds) : f_J0_length_8abf5_14 rf s σ = some (6, σ) := by
  rw [f_J0_length_8abf5_14, f_J0_coder_7d493_14, h.1, pq_cd (by decide), pq_bd, show (6 : Int32) >>> ((0 : Int32) &&& 31) = 6 from by decide]
theorem pb_chr_14 (hb : rf s 0 = bs) (h : pTx σ s bs ds) (hl : ds.length = 6) {k v : Nat} (hv : ds[k]? = some v) : f_J0_charAt_5068e_14 rf s (Int32.ofNat k) σ = some (Int32.ofNat v, σ) := by
  have hk : k < 6 := by rw [← hl]; exact (List.getElem?_eq_some_iff.mp hv).1
  obtain ⟨v1, e⟩ := h.2 k v hv
  have q := qs_v1 v v1
  rw [f_J0_charAt_5068e_14, f_J0_isLatin1_aae02_14, if_pos h.1, pq_bd, if_neg (by decide), f_J1_charAt_3b067_14, f_J0_checkIndex_df160, f_J3_checkIndex_8e157, if_neg (pb_n0 (by omega)), if_pos (show Int32.ofNat k < (6 : Int32) from (pq_lt (m := 6) (by omega) (by decide)).mpr hk), pq_bd, pq_bd, pq_in hk (by decide), pq_ck, pq_cl (show k < 2147483648 by omega), hb, e, q.1, pq_cd q.2.2, pq_bd, pq_cd q.2.2]

theorem pb_str_14 (hb : rf o 0 = b) (hob : o ≠ b) (h : pB σ o b L) (hs : rf s 0 = bs) (hsb : bs ≠ b) (hso : s ≠ b) (hso2 : s ≠ o) (ht : pTx σ s bs ds) (hn : ds.length = 6) (hl : L.length + ds.length ≤ 16) : ∃ σ', f_J4_append_15ec4_14 rf o s σ = some (o, σ') ∧ pB σ' o b (L ++ ds) ∧ ∀ a, a ≠ o → a ≠ b → σ' a = σ a := by
  have hs2 := (pb_sh0 L.length (by omega)).2
  have ck := pb_cpk (F := σ bs) (dp := L.length) (n := ds.length) (n0 := 6) (n1 := 16) (by omega) hl (by omega) (by omega) (fun i hi => ⟨_, ht.2 i _ (List.getElem?_eq_getElem hi)⟩)
  rw [hn, show Int32.ofNat 6 = (6 : Int32) from rfl] at ck
  have e : (6 : Int32).toNatClampNeg = ds.length := by rw [hn]; decide
  have e9 : (6 : Int32) = Int32.ofNat ds.length := by rw [hn]; rfl
  refine ⟨_, ?_, pb_put h hob hl ht.2, pb_fr⟩
  rw [f_J4_append_15ec4_14, f_J5_append_cf1ce_14, pb_len_14 ht, pq_bd, h.2.1, show Int32.ofNat L.length + (6 : Int32) = Int32.ofNat (L.length + ds.length) by rw [Int32.ofNat_add, ← e9], pb_ens h.1 hl, pq_bd, f_J5_putStringAt_47b60_14, f_J5_inflateIfNeededFor_a7421_14, f_J0_coder_7d493_14, ht.1, pq_cd (by decide), pq_bd, if_pos h.1, pq_bd, f_J0_getBytes_840e7_14, f_J0_coder_7d493_14, ht.1, pq_cd (by decide), pq_bd, if_pos h.1.symm, hb, hs, h.1, h.2.1, hs2, ck, pq_ck, rc_lt, pq_bd, pq_bd, rc_lt, pq_bd, show (0 : Int32).toNatClampNeg = 0 from by decide, pq_cl (show L.length < 2147483648 by omega), e]
  unfold rc_row
  rw [if_neg hob, h.2.1, e9, ← Int32.ofNat_add]

theorem pb_len_15 (h : pTx σ s bs ds) : f_J0_length_8abf5_15 rf s σ = some (8, σ) := by
  rw [f_J0_length_8abf5_15, f_J0_coder_7d493_15, h.1, pq_cd (by decide), pq_bd, show (8 : Int32) >>> ((0 : Int32) &&& 31) = 8 from by decide]
theorem pb_chr_15 (hb : rf s 0 = bs) (h : pTx σ s bs ds) (hl : ds.length = 8) {k v : Nat} (hv : ds[k]? = some v) : f_J0_charAt_5068e_15 rf s (Int32.ofNat k) σ = some (Int32.ofNat v, σ) := by
  have hk : k < 8 := by rw [← hl]; exact (List.getElem?_eq_some_iff.mp hv).1
  obtain ⟨v1, e⟩ := h.2 k v hv
  have q := qs_v1 v v1
  rw [f_J0_charAt_5068e_15, f_J0_isLatin1_aae02_15, if_pos h.1, pq_bd, if_neg (by decide), f_J1_charAt_3b067_15, f_J0_checkIndex_df160, f_J3_checkIndex_8e157, if_neg (pb_n0 (by omega)), if_pos (show Int32.ofNat k < (8 : Int32) from (pq_lt (m := 8) (by omega) (by decide)).mpr hk), pq_bd, pq_bd, pq_in hk (by decide), pq_ck, pq_cl (show k < 2147483648 by omega), hb, e, q.1, pq_cd q.2.2, pq_bd, pq_cd q.2.2]

/-- what toString leaves -/
theorem pb_gc (h : pB σ o b L) {n : Nat} (hn : L.length = n) : rc_cpk (σ b) (0 : Int32) (0 : Int32) (Int32.ofNat n) 16 n = true := by
  have := pb_cpk (F := σ b) (dp := 0) (n := n) (n0 := 16) (n1 := n) (by have := h.2.2.1; omega) (by omega) (by omega) (by have := h.2.2.1; omega) (fun i hi => ⟨_, h.2.2.2 i _ (List.getElem?_eq_getElem (by omega))⟩)
  exact this
theorem pb_ts (h : pB σ o b L) {n : Nat} (hn : L.length = n) {x a : Nat} (hax : a ≠ x) : pTx (rc_row (rc_row σ a (rc_gc (σ b) (Int32.ofNat n))) x (fun _ => 0)) x a L := by
  have h16 := h.2.2.1
  refine ⟨by unfold rc_row; rw [if_pos rfl], fun k v hv => ?_⟩
  have hk : k < n := by rw [← hn]; exact (List.getElem?_eq_some_iff.mp hv).1
  unfold rc_row
  rw [if_neg hax, if_pos rfl]
  unfold rc_gc va_cpy
  rw [show (0 : Int32).toNatClampNeg = 0 from by decide, pq_cl (show n < 2147483648 by omega), if_pos (by omega), Nat.zero_add, Nat.sub_zero]
  exact h.2.2.2 k v hv
theorem pb_new {x : Nat} : pB (rc_row (rc_row σ (x + 1) (fun _ => 0)) x (fun _ => 0)) x (x + 1) [] := by
  refine ⟨by unfold rc_row; rw [if_pos rfl], by unfold rc_row; rw [if_pos rfl]; rfl, by decide, fun k v hv => by cases hv⟩
theorem pB_f (h : pB σ o b L) (h1 : σ' o = σ o) (h2 : σ' b = σ b) : pB σ' o b L := by unfold pB at h ⊢; rw [h1, h2]; exact h
theorem pTx_f (h : pTx σ o b L) (h1 : σ' o = σ o) (h2 : σ' b = σ b) : pTx σ' o b L := by unfold pTx at h ⊢; rw [h1, h2]; exact h
end PB10
