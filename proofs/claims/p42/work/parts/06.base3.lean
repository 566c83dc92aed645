/-! methods that throw -/
theorem rc_ps {L : List Cond} (ps : List Nat) (h : L = ps.filterMap (fun i => lw_tbl[i]?)) : ∀ w ∈ L, w ∈ lw_tbl := by
  intro w hw
  rw [h] at hw
  obtain ⟨i, -, hi⟩ := List.mem_filterMap.mp hw
  exact List.mem_of_getElem? hi
theorem rc_ps1 {w : Cond} (i : Nat) (h : lw_tbl[i]? = some w) : w ∈ lw_tbl := List.mem_of_getElem? h
theorem rc_hat {args : Array Value} {s : State} {Y : rc_Y} {H : Heap} {L : List Cond} (hts : ∀ w ∈ rc_big, w.before args s = true) (hE : rc_E Y s H) (h1 : ∀ w ∈ L.filter goodWord, w ∈ lw_tbl) (h2 : ∀ w ∈ L.filter (fun w => !goodWord w), w ∈ lw_tbl) (h3 : (L.filter (fun w => !goodWord w)).all rc_nwok = true) : ∀ w ∈ L, w.before args s = true := by
  refine vx_hat (B := L.filter (fun w => !goodWord w)) (fun w hw => hts w (rc_mem (h1 w hw) (List.mem_filter.mp hw).2)) (fun w hw => hw) (fun w hw => ?_)
  have hk : rc_nwok w = true := List.all_eq_true.mp h3 w hw
  have ht : w ∈ tables_1 := by
    rcases List.mem_append.mp (h2 w hw) with h | h
    · obtain ⟨q, -, rfl⟩ := List.mem_map.mp h
      cases hk
    · exact h
  refine va_Nw.use ?_ (rc_E_nw hE w (List.mem_filter.mpr ⟨ht, hk⟩))
  cases w <;> first | rfl | cases hk
set_option maxRecDepth 20000 in
theorem rc_hat_1 {args : Array Value} {s : State} {Y : rc_Y} {H : Heap} (hts : ∀ w ∈ rc_big, w.before args s = true) (hE : rc_E Y s H) : ∀ w ∈ vx_at0 "RainCellar" 294 "java/lang/UnsupportedOperationException" ["java/lang/RuntimeException", "java/lang/Exception"], w.before args s = true := rc_hat hts hE (rc_ps [30, 448, 398, 408, 411, 413, 449, 450, 56, 57, 392, 397, 409, 416, 442, 417, 443, 418, 444, 393, 395, 445, 702, 703, 704, 486, 486, 487, 488, 489, 489, 490, 491, 449, 701, 693, 695, 406, 696, 697, 698, 699, 414, 446, 700] (by decide +kernel)) (rc_ps [435, 437, 439, 694] (by decide +kernel)) (by decide +kernel)
set_option maxRecDepth 20000 in
theorem rc_hgd_1 : ∀ w ∈ Cond.classLink "RainCellar" 292 "java/lang/UnsupportedOperationException" :: Cond.initialized "java/lang/UnsupportedOperationException" :: vx_at0 "RainCellar" 294 "java/lang/UnsupportedOperationException" ["java/lang/RuntimeException", "java/lang/Exception"], vx_ot w = true := by decide +kernel
theorem rc_hk_1 : Cond.classLink "RainCellar" 292 "java/lang/UnsupportedOperationException" ∈ rc_big := rc_mem (rc_ps1 692 (by decide +kernel)) rfl
theorem rc_hi_1 : Cond.initialized "java/lang/UnsupportedOperationException" ∈ rc_big := rc_mem (rc_ps1 46 (by decide +kernel)) rfl
set_option maxRecDepth 20000 in
theorem rc_hat_2 {args : Array Value} {s : State} {Y : rc_Y} {H : Heap} (hts : ∀ w ∈ rc_big, w.before args s = true) (hE : rc_E Y s H) : ∀ w ∈ vx_at0 "RainCellar" 114 "java/lang/IndexOutOfBoundsException" ["java/lang/RuntimeException", "java/lang/Exception"], w.before args s = true := rc_hat hts hE (rc_ps [30, 448, 398, 408, 411, 413, 449, 450, 56, 57, 392, 397, 409, 416, 442, 417, 443, 418, 444, 393, 395, 445, 483, 484, 485, 486, 486, 487, 488, 489, 489, 490, 491, 449, 482, 474, 476, 404, 477, 478, 479, 480, 414, 446, 481] (by decide +kernel)) (rc_ps [435, 437, 439, 475] (by decide +kernel)) (by decide +kernel)
set_option maxRecDepth 20000 in
theorem rc_hgd_2 : ∀ w ∈ Cond.classLink "RainCellar" 112 "java/lang/IndexOutOfBoundsException" :: Cond.initialized "java/lang/IndexOutOfBoundsException" :: vx_at0 "RainCellar" 114 "java/lang/IndexOutOfBoundsException" ["java/lang/RuntimeException", "java/lang/Exception"], vx_ot w = true := by decide +kernel
theorem rc_hk_2 : Cond.classLink "RainCellar" 112 "java/lang/IndexOutOfBoundsException" ∈ rc_big := rc_mem (rc_ps1 473 (by decide +kernel)) rfl
theorem rc_hi_2 : Cond.initialized "java/lang/IndexOutOfBoundsException" ∈ rc_big := rc_mem (rc_ps1 34 (by decide +kernel)) rfl
set_option maxRecDepth 20000 in
theorem rc_hat_3 {args : Array Value} {s : State} {Y : rc_Y} {H : Heap} (hts : ∀ w ∈ rc_big, w.before args s = true) (hE : rc_E Y s H) : ∀ w ∈ vx_at0 "RainCellar" 130 "java/lang/IllegalArgumentException" ["java/lang/RuntimeException", "java/lang/Exception"], w.before args s = true := rc_hat hts hE (rc_ps [30, 448, 398, 408, 411, 413, 449, 450, 56, 57, 392, 397, 409, 416, 442, 417, 443, 418, 444, 393, 395, 445, 585, 586, 587, 486, 486, 487, 488, 489, 489, 490, 491, 449, 584, 576, 578, 402, 579, 580, 581, 582, 414, 446, 583] (by decide +kernel)) (rc_ps [435, 437, 439, 577] (by decide +kernel)) (by decide +kernel)
set_option maxRecDepth 20000 in
theorem rc_hgd_3 : ∀ w ∈ Cond.classLink "RainCellar" 128 "java/lang/IllegalArgumentException" :: Cond.initialized "java/lang/IllegalArgumentException" :: vx_at0 "RainCellar" 130 "java/lang/IllegalArgumentException" ["java/lang/RuntimeException", "java/lang/Exception"], vx_ot w = true := by decide +kernel
theorem rc_hk_3 : Cond.classLink "RainCellar" 128 "java/lang/IllegalArgumentException" ∈ rc_big := rc_mem (rc_ps1 575 (by decide +kernel)) rfl
theorem rc_hi_3 : Cond.initialized "java/lang/IllegalArgumentException" ∈ rc_big := rc_mem (rc_ps1 33 (by decide +kernel)) rfl
set_option maxRecDepth 20000 in
theorem rc_hat_4 {args : Array Value} {s : State} {Y : rc_Y} {H : Heap} (hts : ∀ w ∈ rc_big, w.before args s = true) (hE : rc_E Y s H) : ∀ w ∈ vx_at0 "RainCellar" 213 "java/util/NoSuchElementException" ["java/lang/RuntimeException", "java/lang/Exception"], w.before args s = true := rc_hat hts hE (rc_ps [30, 448, 398, 408, 411, 413, 449, 450, 56, 57, 392, 397, 409, 416, 442, 417, 443, 418, 444, 393, 395, 445, 508, 509, 510, 486, 486, 487, 488, 489, 489, 490, 491, 449, 507, 499, 501, 407, 502, 503, 504, 505, 414, 446, 506] (by decide +kernel)) (rc_ps [435, 437, 439, 500] (by decide +kernel)) (by decide +kernel)
set_option maxRecDepth 20000 in
theorem rc_hgd_4 : ∀ w ∈ Cond.classLink "RainCellar" 211 "java/util/NoSuchElementException" :: Cond.initialized "java/util/NoSuchElementException" :: vx_at0 "RainCellar" 213 "java/util/NoSuchElementException" ["java/lang/RuntimeException", "java/lang/Exception"], vx_ot w = true := by decide +kernel
theorem rc_hk_4 : Cond.classLink "RainCellar" 211 "java/util/NoSuchElementException" ∈ rc_big := rc_mem (rc_ps1 498 (by decide +kernel)) rfl
theorem rc_hi_4 : Cond.initialized "java/util/NoSuchElementException" ∈ rc_big := rc_mem (rc_ps1 45 (by decide +kernel)) rfl
set_option maxRecDepth 20000 in
theorem rc_hat_5 {args : Array Value} {s : State} {Y : rc_Y} {H : Heap} (hts : ∀ w ∈ rc_big, w.before args s = true) (hE : rc_E Y s H) : ∀ w ∈ vx_at0 "RainCellar" 263 "java/lang/IllegalStateException" ["java/lang/RuntimeException", "java/lang/Exception"], w.before args s = true := rc_hat hts hE (rc_ps [30, 448, 398, 408, 411, 413, 449, 450, 56, 57, 392, 397, 409, 416, 442, 417, 443, 418, 444, 393, 395, 445, 1134, 1135, 1136, 486, 486, 487, 488, 489, 489, 490, 491, 449, 1133, 1125, 1127, 403, 1128, 1129, 1130, 1131, 414, 446, 1132] (by decide +kernel)) (rc_ps [435, 437, 439, 1126] (by decide +kernel)) (by decide +kernel)
set_option maxRecDepth 20000 in
theorem rc_hgd_5 : ∀ w ∈ Cond.classLink "RainCellar" 261 "java/lang/IllegalStateException" :: Cond.initialized "java/lang/IllegalStateException" :: vx_at0 "RainCellar" 263 "java/lang/IllegalStateException" ["java/lang/RuntimeException", "java/lang/Exception"], vx_ot w = true := by decide +kernel
theorem rc_hk_5 : Cond.classLink "RainCellar" 261 "java/lang/IllegalStateException" ∈ rc_big := rc_mem (rc_ps1 1124 (by decide +kernel)) rfl
theorem rc_hi_5 : Cond.initialized "java/lang/IllegalStateException" ∈ rc_big := rc_mem (rc_ps1 47 (by decide +kernel)) rfl
set_option maxRecDepth 20000 in
theorem rc_hat_6 {args : Array Value} {s : State} {Y : rc_Y} {H : Heap} (hts : ∀ w ∈ rc_big, w.before args s = true) (hE : rc_E Y s H) : ∀ w ∈ vx_at0 "RainCellar" 338 "java/lang/ArithmeticException" ["java/lang/RuntimeException", "java/lang/Exception"], w.before args s = true := rc_hat hts hE (rc_ps [30, 448, 398, 408, 411, 413, 449, 450, 56, 57, 392, 397, 409, 416, 442, 417, 443, 418, 444, 393, 395, 445, 1508, 1509, 1510, 486, 486, 487, 488, 489, 489, 490, 491, 449, 1507, 1489, 1501, 400, 1495, 1496, 1498, 1494, 414, 446, 1493] (by decide +kernel)) (rc_ps [435, 437, 439, 1500] (by decide +kernel)) (by decide +kernel)
set_option maxRecDepth 20000 in
theorem rc_hgd_6 : ∀ w ∈ Cond.classLink "RainCellar" 336 "java/lang/ArithmeticException" :: Cond.initialized "java/lang/ArithmeticException" :: vx_at0 "RainCellar" 338 "java/lang/ArithmeticException" ["java/lang/RuntimeException", "java/lang/Exception"], vx_ot w = true := by decide +kernel
theorem rc_hk_6 : Cond.classLink "RainCellar" 336 "java/lang/ArithmeticException" ∈ rc_big := rc_mem (rc_ps1 1506 (by decide +kernel)) rfl
theorem rc_hi_6 : Cond.initialized "java/lang/ArithmeticException" ∈ rc_big := rc_mem (rc_ps1 49 (by decide +kernel)) rfl
