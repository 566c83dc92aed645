/-! THE WORLD: cells by address. sh: of what kind each is (0: none of ours); rf: its references; σ: its numbers. -/
abbrev rc_S := Nat → Nat → Int32
abbrev rc_F := Nat → Nat → Nat
/-- base (where our cells begin), the classes' numbers and slots, the classes of the arrays, the addresses of texts -/
abbrev rc_Y := Nat × va_G × (Nat → ClassId) × (Nat → Nat)
def rc_C (cy : Nat → ClassId) (t : Nat) (r : Nat → Int32) (q : Nat → Nat) : va_E := match t with
  | 1 => .inr (4, [.int (r 0), .int (r 1), .int (r 2), .int (r 3), .int (r 4), .int (r 5)])
  | 2 => .inr (5, [.ref (q 0), .ref (q 1), .int (r 2), .ref (q 3), .ref (q 4), .int (r 5), .int (r 6), .int (r 7), .int (r 8), .int (r 9), .int (r 10), .int (r 11), .int (r 12), .int (r 13)])
  | 3 => .inr (6, [.ref (q 0), .int (r 1), .int (r 2)])
  | 4 => .inr (7, [.ref (q 0), .ref (q 1), .int (r 2)])
  | 5 => .inr (8, [.int (r 0), .int (r 1), .int (r 2)])
  | 6 => .inr (9, [.int (r 0), .int (r 1), .int (r 2)])
  | 7 => .inr (10, [.ref (q 0), .int (r 1), .ref (q 2), .ref (q 3), .int (r 4), .int (r 5), .int (r 6)])
  | 8 => .inr (11, [.ref (q 0), .ref (q 1)])
  | 9 => .inr (12, [.ref (q 0), .ref (q 1), .ref (q 2), .ref (q 3), .int (r 4), .ref (q 5), .ref (q 6), .int (r 7), .ref (q 8)])
  | 11 => .inr (1, [.ref (q 0), .int (r 1), .int (r 2), .int (r 3)])
  | 12 => .inr (0, [.ref (q 0), .int (r 1), .int (r 2), .int (r 3)])
  | 13 => .inr (0, [.ref (q 0), .int (r 1), .int (r 2), .int (r 3)])
  | 14 => .inr (0, [.ref (q 0), .int (r 1), .int (r 2), .int (r 3)])
  | 15 => .inr (0, [.ref (q 0), .int (r 1), .int (r 2), .int (r 3)])
  | 20 => .inl (cy 0, 4, .inl r)
  | 21 => .inl (cy 2, 4, .inl r)
  | 22 => .inl (cy 1, 60, .inl r)
  | 23 => .inl (cy 0, 180, .inl r)
  | 24 => .inl (cy 3, 16, .inl r)
  | 25 => .inl (cy 4, 8, .inr (.inr (.inr (.inr (fun j => some (q j))))))
  | 26 => .inl (cy 5, 9, .inr (.inr (.inr (.inr (fun j => some (q j))))))
  | 27 => .inl (cy 6, 12, .inr (.inr (.inr (.inr (fun j => some (q j))))))
  | 32 => .inl (cy 3, 2, .inl r)
  | 33 => .inl (cy 3, 4, .inl r)
  | 34 => .inl (cy 3, 6, .inl r)
  | _ => .inl (cy 3, 8, .inl r)
def rc_tys (cy : Nat → ClassId) : List (ClassId × FieldType) := [(cy 0, .int), (cy 1, .char), (cy 2, .boolean), (cy 3, .byte), (cy 4, .object "RainCellar$Barrel"), (cy 5, .object "RainCellar$Cellar"), (cy 6, .object "RainCellar$Rainfall")]
def rc_W (Y : rc_Y) (sh : Nat → Nat) (rf : rc_F) (σ : rc_S) (H : Heap) : Prop := ∀ a, sh a ≠ 0 → va_at Y.2.1 vwCl (a, rc_C Y.2.2.1 (sh a) (σ a) (rf a)) H
/-- the kinds fit: what a reference of ours points to -/
def rc_T (Y : rc_Y) (sh : Nat → Nat) (rf : rc_F) : Prop := ∀ a, (sh a ≠ 0 → Y.1 ≤ a) ∧
  (sh a = 2 → sh (rf a 0) = 20 ∧ sh (rf a 1) = 25 ∧ sh (rf a 3) = 4 ∧ sh (rf a 4) = 27) ∧
  (sh a = 3 → sh (rf a 0) = 26) ∧
  (sh a = 4 → sh (rf a 0) = 20 ∧ sh (rf a 1) = 21) ∧
  (sh a = 7 → sh (rf a 0) = 22 ∧ sh (rf a 2) = 22 ∧ sh (rf a 3) = 23) ∧
  (sh a = 8 → sh (rf a 0) = 2 ∧ sh (rf a 1) = 6) ∧
  (sh a = 9 → sh (rf a 0) = 8 ∧ sh (rf a 1) = 2 ∧ sh (rf a 2) = 6 ∧ sh (rf a 3) = 2 ∧ sh (rf a 5) = 3 ∧ sh (rf a 6) = 7 ∧ sh (rf a 8) = 11) ∧
  (sh a = 11 → sh (rf a 0) = 24) ∧
  (sh a = 12 → sh (rf a 0) = 32) ∧
  (sh a = 13 → sh (rf a 0) = 33) ∧
  (sh a = 14 → sh (rf a 0) = 34) ∧
  (sh a = 15 → sh (rf a 0) = 35) ∧
  (sh a = 25 → ∀ j, j < 8 → sh (rf a j) = 1) ∧
  (sh a = 26 → ∀ j, j < 9 → sh (rf a j) = 2) ∧
  (sh a = 27 → ∀ j, j < 12 → sh (rf a j) = 5)
section RCT
variable {Y : rc_Y} {sh : Nat → Nat} {rf : rc_F} {a : Nat}
theorem rc_t_b (h : rc_T Y sh rf) (e : sh a ≠ 0) : Y.1 ≤ a := (h a).1 e
theorem rc_t_2_0 (h : rc_T Y sh rf) (e : sh a = 2) : sh (rf a 0) = 20 := ((h a).2.1 e).1
theorem rc_t_2_1 (h : rc_T Y sh rf) (e : sh a = 2) : sh (rf a 1) = 25 := ((h a).2.1 e).2.1
theorem rc_t_2_3 (h : rc_T Y sh rf) (e : sh a = 2) : sh (rf a 3) = 4 := ((h a).2.1 e).2.2.1
theorem rc_t_2_4 (h : rc_T Y sh rf) (e : sh a = 2) : sh (rf a 4) = 27 := ((h a).2.1 e).2.2.2
theorem rc_t_3_0 (h : rc_T Y sh rf) (e : sh a = 3) : sh (rf a 0) = 26 := ((h a).2.2.1 e)
theorem rc_t_4_0 (h : rc_T Y sh rf) (e : sh a = 4) : sh (rf a 0) = 20 := ((h a).2.2.2.1 e).1
theorem rc_t_4_1 (h : rc_T Y sh rf) (e : sh a = 4) : sh (rf a 1) = 21 := ((h a).2.2.2.1 e).2
theorem rc_t_7_0 (h : rc_T Y sh rf) (e : sh a = 7) : sh (rf a 0) = 22 := ((h a).2.2.2.2.1 e).1
theorem rc_t_7_2 (h : rc_T Y sh rf) (e : sh a = 7) : sh (rf a 2) = 22 := ((h a).2.2.2.2.1 e).2.1
theorem rc_t_7_3 (h : rc_T Y sh rf) (e : sh a = 7) : sh (rf a 3) = 23 := ((h a).2.2.2.2.1 e).2.2
theorem rc_t_8_0 (h : rc_T Y sh rf) (e : sh a = 8) : sh (rf a 0) = 2 := ((h a).2.2.2.2.2.1 e).1
theorem rc_t_8_1 (h : rc_T Y sh rf) (e : sh a = 8) : sh (rf a 1) = 6 := ((h a).2.2.2.2.2.1 e).2
theorem rc_t_9_0 (h : rc_T Y sh rf) (e : sh a = 9) : sh (rf a 0) = 8 := ((h a).2.2.2.2.2.2.1 e).1
theorem rc_t_9_1 (h : rc_T Y sh rf) (e : sh a = 9) : sh (rf a 1) = 2 := ((h a).2.2.2.2.2.2.1 e).2.1
theorem rc_t_9_2 (h : rc_T Y sh rf) (e : sh a = 9) : sh (rf a 2) = 6 := ((h a).2.2.2.2.2.2.1 e).2.2.1
theorem rc_t_9_3 (h : rc_T Y sh rf) (e : sh a = 9) : sh (rf a 3) = 2 := ((h a).2.2.2.2.2.2.1 e).2.2.2.1
theorem rc_t_9_5 (h : rc_T Y sh rf) (e : sh a = 9) : sh (rf a 5) = 3 := ((h a).2.2.2.2.2.2.1 e).2.2.2.2.1
theorem rc_t_9_6 (h : rc_T Y sh rf) (e : sh a = 9) : sh (rf a 6) = 7 := ((h a).2.2.2.2.2.2.1 e).2.2.2.2.2.1
theorem rc_t_9_8 (h : rc_T Y sh rf) (e : sh a = 9) : sh (rf a 8) = 11 := ((h a).2.2.2.2.2.2.1 e).2.2.2.2.2.2
theorem rc_t_11_0 (h : rc_T Y sh rf) (e : sh a = 11) : sh (rf a 0) = 24 := ((h a).2.2.2.2.2.2.2.1 e)
theorem rc_t_12_0 (h : rc_T Y sh rf) (e : sh a = 12) : sh (rf a 0) = 32 := ((h a).2.2.2.2.2.2.2.2.1 e)
theorem rc_t_13_0 (h : rc_T Y sh rf) (e : sh a = 13) : sh (rf a 0) = 33 := ((h a).2.2.2.2.2.2.2.2.2.1 e)
theorem rc_t_14_0 (h : rc_T Y sh rf) (e : sh a = 14) : sh (rf a 0) = 34 := ((h a).2.2.2.2.2.2.2.2.2.2.1 e)
theorem rc_t_15_0 (h : rc_T Y sh rf) (e : sh a = 15) : sh (rf a 0) = 35 := ((h a).2.2.2.2.2.2.2.2.2.2.2.1 e)
theorem rc_t_25 (h : rc_T Y sh rf) (e : sh a = 25) {i : Int32} (hi : vp_in i 8) : sh (rf a i.toNatClampNeg) = 1 := (h a).2.2.2.2.2.2.2.2.2.2.2.2.1 e _ (Nat.not_le.mp fun q => hi (Or.inr q))
theorem rc_t_26 (h : rc_T Y sh rf) (e : sh a = 26) {i : Int32} (hi : vp_in i 9) : sh (rf a i.toNatClampNeg) = 2 := (h a).2.2.2.2.2.2.2.2.2.2.2.2.2.1 e _ (Nat.not_le.mp fun q => hi (Or.inr q))
theorem rc_t_27 (h : rc_T Y sh rf) (e : sh a = 27) {i : Int32} (hi : vp_in i 12) : sh (rf a i.toNatClampNeg) = 5 := (h a).2.2.2.2.2.2.2.2.2.2.2.2.2.2 e _ (Nat.not_le.mp fun q => hi (Or.inr q))
end RCT
def rc_A (sh : Nat → Nat) (sz : Nat) : Nat → Prop := fun q => sh q ≠ 0 ∨ sz ≤ q
def rc_row (σ : rc_S) (a : Nat) (r : Nat → Int32) : rc_S := fun b => if b = a then r else σ b
def rc_up (σ : rc_S) (a k : Nat) (x : Int32) : rc_S := fun b => if b = a then upd (σ a) k x else σ b
theorem rc_one {Y : rc_Y} {sh : Nat → Nat} {rf : rc_F} {σ : rc_S} {H : Heap} {a t : Nat} (hW : rc_W Y sh rf σ H) (ht : sh a = t) (h0 : t ≠ 0) {e : va_E} (he : rc_C Y.2.2.1 t (σ a) (rf a) = e) : va_P Y.2.1 vwCl [(a, e)] H := by
  intro k q hk
  have hz : k < 1 := (List.getElem?_eq_some_iff.mp hk).1
  rw [show k = 0 by omega] at hk
  cases hk
  rw [← he, ← ht]
  exact hW a (by rw [ht]; exact h0)
theorem rc_wr {Y : rc_Y} {sh : Nat → Nat} {rf : rc_F} {σ : rc_S} {H H1 : Heap} {a t : Nat} {r : Nat → Int32} (hW : rc_W Y sh rf σ H) (ht : sh a = t) (hn : va_at Y.2.1 vwCl (a, rc_C Y.2.2.1 t r (rf a)) H1) (oq : ∀ q : Nat, q ≠ a → H1[q]? = H[q]?) : rc_W Y sh rf (rc_row σ a r) H1 := by
  intro b hb
  by_cases h : b = a
  · subst h
    rw [ht]
    simp only [rc_row, if_true]
    exact hn
  · simp only [rc_row, if_neg h]
    exact (hW b hb).kept (oq b h)
/-- nothing of ours was written -/
theorem rc_W.kept {Y : rc_Y} {sh : Nat → Nat} {rf : rc_F} {σ : rc_S} {H H1 : Heap} (hW : rc_W Y sh rf σ H) (hq : ∀ a, sh a ≠ 0 → H1[a]? = H[a]?) : rc_W Y sh rf σ H1 := fun a ha => (hW a ha).kept (hq a ha)
theorem rc_W.lt {Y : rc_Y} {sh : Nat → Nat} {rf : rc_F} {σ : rc_S} {H : Heap} (hW : rc_W Y sh rf σ H) {a : Nat} (ha : sh a ≠ 0) : a < H.size := (hW a ha).lt
/-! the models' words -/
def rc_lt {α β : Type} (e : α) (f : α → β) : β := f e
theorem rc_lt_at {α β : Type} {e : α} {f : α → β} {x : α} {y : β} (h : rc_lt e f = y) (hx : x = e) : f x = y := by subst hx; exact h
def rc_in (i : Int32) (n : Nat) : Bool := !(decide (i < 0) || decide (n ≤ i.toNatClampNeg))
theorem rc_in_iff {i : Int32} {n : Nat} : rc_in i n = true ↔ vp_in i n := by
  unfold rc_in vp_in
  by_cases h1 : i < 0 <;> by_cases h2 : n ≤ i.toNatClampNeg <;> simp [h1, h2]
def rc_ck {α : Type} (b : Bool) (x : Option α) : Option α := match b with
  | true => x
  | false => none
theorem rc_ck_inv {α : Type} {b : Bool} {x : Option α} {y : α} (h : rc_ck b x = some y) : b = true ∧ x = some y := by
  cases b with
  | true => exact ⟨rfl, h⟩
  | false => cases h
theorem rc_ix {α : Type} {i : Int32} {n : Nat} {x : Option α} {y : α} (h : rc_ck (rc_in i n) x = some y) : vp_in i n ∧ x = some y := ⟨rc_in_iff.mp (rc_ck_inv h).1, (rc_ck_inv h).2⟩
theorem rc_nz {α : Type} {i : Int32} {x : Option α} {y : α} (h : rc_ck (decide (¬ i = 0)) x = some y) : ¬ i = 0 ∧ x = some y := ⟨of_decide_eq_true (rc_ck_inv h).1, (rc_ck_inv h).2⟩
theorem rc_dc {α : Type} {P : Prop} [Decidable P] {x : Option α} {y : α} (h : rc_ck (decide P) x = some y) : P ∧ x = some y := ⟨of_decide_eq_true (rc_ck_inv h).1, (rc_ck_inv h).2⟩
def rc_bd {α β : Type} (g : Option (α × rc_S)) (f : α → rc_S → Option β) : Option β := match g with
  | none => none
  | some (v, σ) => f v σ
theorem rc_bd_inv {α β : Type} {g : Option (α × rc_S)} {f : α → rc_S → Option β} {y : β} (h : rc_bd g f = some y) : ∃ v σ, g = some (v, σ) ∧ f v σ = some y := by
  cases g with
  | none => cases h
  | some q => exact ⟨q.1, q.2, rfl, h⟩
def rc_bx {α β : Type} (g : Option (Nat × α × rc_S)) (d : β) (f : α → rc_S → Option (Nat × β × rc_S)) : Option (Nat × β × rc_S) := match g with
  | none => none
  | some (k, v, σ) => if k = 0 then f v σ else some (k, d, σ)
theorem rc_bx_inv {α β : Type} {g : Option (Nat × α × rc_S)} {d : β} {f : α → rc_S → Option (Nat × β × rc_S)} {k : Nat} {w : β} {σ' : rc_S} (h : rc_bx g d f = some (k, w, σ')) : ∃ k1 v1 σ1, g = some (k1, v1, σ1) ∧ (k1 = 0 → f v1 σ1 = some (k, w, σ')) ∧ (k1 ≠ 0 → k = k1 ∧ σ' = σ1) := by
  cases g with
  | none => cases h
  | some q =>
    obtain ⟨k1, v1, σ1⟩ := q
    refine ⟨k1, v1, σ1, rfl, fun h0 => ?_, fun h0 => ?_⟩
    · subst h0; exact h
    · simp only [rc_bx, if_neg h0] at h
      cases h
      exact ⟨rfl, rfl⟩
theorem rc_t {α : Sort _} {c : Prop} [Decidable c] {a b : α} {y : α} (h : (if c then a else b) = y) (hc : c) : a = y := by rw [if_pos hc] at h; exact h
theorem rc_f {α : Sort _} {c : Prop} [Decidable c] {a b : α} {y : α} (h : (if c then a else b) = y) (hc : ¬ c) : b = y := by rw [if_neg hc] at h; exact h
/-- far more rounds than any loop has -/
def rc_fu : Nat := 100000
/-- the exceptions' numbers -/
def rc_xn (k : Nat) : String := match k with
  | 1 => "java/lang/UnsupportedOperationException"
  | 2 => "java/lang/IndexOutOfBoundsException"
  | 3 => "java/lang/IllegalArgumentException"
  | 4 => "java/util/NoSuchElementException"
  | 5 => "java/lang/IllegalStateException"
  | _ => "java/lang/ArithmeticException"
/-! the words of the tables that every method has -/
/-- a private method of StringBuilder's superclass: what the machine selects for it -/
def rc_eci : MethodName := ⟨"java/lang/AbstractStringBuilder", "ensureCapacityInternal", "(I)V"⟩
def rc_ein : MethodName := ⟨"java/lang/AbstractStringBuilder", "inflateIfNeededFor", "(Ljava/lang/String;)V"⟩
def rc_eps : MethodName := ⟨"java/lang/AbstractStringBuilder", "putStringAt", "(ILjava/lang/String;)V"⟩
def rc_big : List Cond := Cond.selects "java/lang/StringBuilder" rc_eci rc_eci :: Cond.selects "java/lang/StringBuilder" rc_ein rc_ein :: Cond.selects "java/lang/StringBuilder" rc_eps rc_eps :: lw_tbl.filter goodWord
theorem rc_good : ∀ w ∈ rc_big, goodWord w = true := fun _ h => by
  rcases List.mem_cons.mp h with h | h
  · subst h; rfl
  · rcases List.mem_cons.mp h with h | h
    · subst h; rfl
    · rcases List.mem_cons.mp h with h | h
      · subst h; rfl
      · exact (List.mem_filter.mp h).2
theorem rc_mem {w : Cond} (h : w ∈ lw_tbl) (g : goodWord w = true) : w ∈ rc_big := List.mem_cons_of_mem _ (List.mem_cons_of_mem _ (List.mem_cons_of_mem _ (List.mem_filter.mpr ⟨h, g⟩)))
theorem rc_xsel : Cond.selects "java/lang/StringBuilder" ⟨"java/lang/AbstractStringBuilder", "ensureCapacityInternal", "(I)V"⟩ ⟨"java/lang/AbstractStringBuilder", "ensureCapacityInternal", "(I)V"⟩ ∈ rc_big := List.mem_cons_self
theorem rc_xsel2 : Cond.selects "java/lang/StringBuilder" ⟨"java/lang/AbstractStringBuilder", "inflateIfNeededFor", "(Ljava/lang/String;)V"⟩ ⟨"java/lang/AbstractStringBuilder", "inflateIfNeededFor", "(Ljava/lang/String;)V"⟩ ∈ rc_big := List.mem_cons_of_mem _ List.mem_cons_self
theorem rc_xsel3 : Cond.selects "java/lang/StringBuilder" ⟨"java/lang/AbstractStringBuilder", "putStringAt", "(ILjava/lang/String;)V"⟩ ⟨"java/lang/AbstractStringBuilder", "putStringAt", "(ILjava/lang/String;)V"⟩ ∈ rc_big := List.mem_cons_of_mem _ (List.mem_cons_of_mem _ List.mem_cons_self)
theorem rc_m1 {w : Cond} (i : Nat) (h : tables_1_1[i]? = some w) : w ∈ lw_tbl := List.mem_append_right _ (List.mem_append_left _ (List.mem_of_getElem? h))
theorem rc_m2 {w : Cond} (i : Nat) (h : tables_1_2[i]? = some w) : w ∈ lw_tbl := List.mem_append_right _ (List.mem_append_right _ (List.mem_append_left _ (List.mem_of_getElem? h)))
theorem rc_m3 {w : Cond} (i : Nat) (h : tables_1_3[i]? = some w) : w ∈ lw_tbl := List.mem_append_right _ (List.mem_append_right _ (List.mem_append_right _ (List.mem_append_left _ (List.mem_of_getElem? h))))
theorem rc_m4 {w : Cond} (i : Nat) (h : tables_1_4[i]? = some w) : w ∈ lw_tbl := List.mem_append_right _ (List.mem_append_right _ (List.mem_append_right _ (List.mem_append_right _ (List.mem_append_left _ (List.mem_of_getElem? h)))))
theorem rc_m5 {w : Cond} (i : Nat) (h : tables_1_5[i]? = some w) : w ∈ lw_tbl := List.mem_append_right _ (List.mem_append_right _ (List.mem_append_right _ (List.mem_append_right _ (List.mem_append_right _ (List.mem_append_left _ (List.mem_of_getElem? h))))))
theorem rc_m6 {w : Cond} (i : Nat) (h : tables_1_6[i]? = some w) : w ∈ lw_tbl := List.mem_append_right _ (List.mem_append_right _ (List.mem_append_right _ (List.mem_append_right _ (List.mem_append_right _ (List.mem_append_right _ (List.mem_append_left _ (List.mem_of_getElem? h)))))))
theorem rc_m7 {w : Cond} (i : Nat) (h : tables_1_7[i]? = some w) : w ∈ lw_tbl := List.mem_append_right _ (List.mem_append_right _ (List.mem_append_right _ (List.mem_append_right _ (List.mem_append_right _ (List.mem_append_right _ (List.mem_append_right _ (List.mem_of_getElem? h)))))))
theorem rc_mp {w : Cond} (h : w ∈ k2_sels lw_privs) : w ∈ lw_tbl := List.mem_append_left _ h
theorem rc_g0 {ws : List Cond} (h : ∀ w ∈ ws, w ∈ rc_big) : GoodIn rc_big ws := fun w hw => ⟨h w hw, good_of_word (rc_good w (h w hw))⟩
/-- a callee's words: what links it, its code, and the rest -/
theorem rc_gV {own C : String} {i : Nat} {y : MethodName} {cd : Cond} (h1 : Cond.methodLink own i y ∈ rc_big) (h2 : Cond.instanceMethod y ∈ rc_big) (h3 : Cond.selects C y y ∈ rc_big) (h4 : Cond.initialized C ∈ rc_big) (h5 : cd ∈ rc_big) : GoodIn rc_big (wsV own i C y (cd :: rc_big)) := rc_g0 (by
  intro w hw
  simp only [wsV, List.cons_append, List.nil_append, List.mem_cons] at hw
  rcases hw with rfl | rfl | rfl | rfl | rfl | hw
  · exact h1
  · exact h2
  · exact h3
  · exact h4
  · exact h5
  · exact hw)
theorem rc_gS {own : String} {i : Nat} {y : MethodName} {cd : Cond} (h1 : Cond.methodLink own i y ∈ rc_big) (h2 : Cond.static y ∈ rc_big) (h4 : Cond.initialized y.cls ∈ rc_big) (h5 : cd ∈ rc_big) : GoodIn rc_big (va_wsS own i y (cd :: rc_big)) := rc_g0 (by
  intro w hw
  simp only [va_wsS, List.cons_append, List.nil_append, List.mem_cons] at hw
  rcases hw with rfl | rfl | rfl | rfl | hw
  · exact h1
  · exact h2
  · exact h4
  · exact h5
  · exact hw)
theorem rc_gI {cd : Cond} (h5 : cd ∈ rc_big) : GoodIn rc_big (cd :: rc_big) := rc_g0 (by
  intro w hw
  rcases List.mem_cons.mp hw with rfl | hw
  · exact h5
  · exact hw)
