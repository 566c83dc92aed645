/-! methods that throw -/
theorem rc_ps {L : List Cond} (ps : List Nat) (h : L = ps.filterMap (fun i => lw_tbl[i]?)) : ∀ w ∈ L, w ∈ lw_tbl := by
  intro w hw
  rw [h] at hw
  obtain ⟨i, -, hi⟩ := List.mem_filterMap.mp hw
  exact List.mem_of_getElem? hi
theorem rc_ps1 {w : Cond} (i : Nat) (h : lw_tbl[i]? = some w) : w ∈ lw_tbl := List.mem_of_getElem? h
theorem rc_hat {args : Array Value} {s : State} {Y : rc_Y} {H : Heap} {L : List Cond} (hts : ∀ w ∈ rc_big, w.before args s = true) (hE : rc_E Y s H) (h1 : ∀ w ∈ L.filter goodWord, w ∈ lw_tbl) (h2 : ∀ w ∈ L.filter (fun w => !goodWord w), w ∈ lw_tbl) (h3 : (L.filter (fun w => !goodWord w)).all rc_nwok = true) : ∀ w ∈ L, w.before args s = true := by
  refine vx_hat (B := L.filter (fun w => !goodWord w)) (fun w hw => hts w (rc_mem (h1 w hw) (List.mem_filter.mp hw).2)) (fun w hw => hw) (fun w hw => ?_)
  have hk : rc_nwok w = true := List.all_eq_true.mp h3 w hw
  have ht : w ∈ tables_1 := by
    rcases List.mem_append.mp (h2 w hw) with h | h
    · obtain ⟨q, -, rfl⟩ := List.mem_map.mp h
      cases hk
    · exact h
  refine va_Nw.use ?_ (rc_E_nw hE w (List.mem_filter.mpr ⟨ht, hk⟩))
  cases w <;> first | rfl | cases hk
set_option maxRecDepth 20000 in
theorem rc_hat_1 {args : Array Value} {s : State} {Y : rc_Y} {H : Heap} (hts : ∀ w ∈ rc_big, w.before args s = true) (hE : rc_E Y s H) : ∀ w ∈ vx_at0 "RainCellar" 294 "java/lang/UnsupportedOperationException" ["java/lang/RuntimeException", "java/lang/Exception"], w.before args s = true := rc_hat hts hE (rc_ps [73, 692, 701, 710, 713, 715, 693, 694, 98, 99, 695, 700, 711, 736, 682, 737, 684, 738, 686, 696, 698, 688, 908, 909, 910, 911, 911, 912, 913, 914, 914, 915, 916, 693, 907, 899, 901, 708, 902, 903, 904, 905, 691, 690, 906] (by decide +kernel)) (rc_ps [673, 675, 677, 900] (by decide +kernel)) (by decide +kernel)
set_option maxRecDepth 20000 in
theorem rc_hgd_1 : ∀ w ∈ Cond.classLink "RainCellar" 292 "java/lang/UnsupportedOperationException" :: Cond.initialized "java/lang/UnsupportedOperationException" :: vx_at0 "RainCellar" 294 "java/lang/UnsupportedOperationException" ["java/lang/RuntimeException", "java/lang/Exception"], vx_ot w = true := by decide +kernel
theorem rc_hk_1 : Cond.classLink "RainCellar" 292 "java/lang/UnsupportedOperationException" ∈ rc_big := rc_mem (rc_ps1 898 (by decide +kernel)) rfl
theorem rc_hi_1 : Cond.initialized "java/lang/UnsupportedOperationException" ∈ rc_big := rc_mem (rc_ps1 76 (by decide +kernel)) rfl
set_option maxRecDepth 20000 in
theorem rc_hat_2 {args : Array Value} {s : State} {Y : rc_Y} {H : Heap} (hts : ∀ w ∈ rc_big, w.before args s = true) (hE : rc_E Y s H) : ∀ w ∈ vx_at0 "RainCellar" 114 "java/lang/IndexOutOfBoundsException" ["java/lang/RuntimeException", "java/lang/Exception"], w.before args s = true := rc_hat hts hE (rc_ps [73, 692, 701, 710, 713, 715, 693, 694, 98, 99, 695, 700, 711, 736, 682, 737, 684, 738, 686, 696, 698, 688, 1123, 1124, 1125, 911, 911, 912, 913, 914, 914, 915, 916, 693, 1122, 1114, 1116, 706, 1117, 1118, 1119, 1120, 691, 690, 1121] (by decide +kernel)) (rc_ps [673, 675, 677, 1115] (by decide +kernel)) (by decide +kernel)
set_option maxRecDepth 20000 in
theorem rc_hgd_2 : ∀ w ∈ Cond.classLink "RainCellar" 112 "java/lang/IndexOutOfBoundsException" :: Cond.initialized "java/lang/IndexOutOfBoundsException" :: vx_at0 "RainCellar" 114 "java/lang/IndexOutOfBoundsException" ["java/lang/RuntimeException", "java/lang/Exception"], vx_ot w = true := by decide +kernel
theorem rc_hk_2 : Cond.classLink "RainCellar" 112 "java/lang/IndexOutOfBoundsException" ∈ rc_big := rc_mem (rc_ps1 1113 (by decide +kernel)) rfl
theorem rc_hi_2 : Cond.initialized "java/lang/IndexOutOfBoundsException" ∈ rc_big := rc_mem (rc_ps1 77 (by decide +kernel)) rfl
set_option maxRecDepth 20000 in
theorem rc_hat_3 {args : Array Value} {s : State} {Y : rc_Y} {H : Heap} (hts : ∀ w ∈ rc_big, w.before args s = true) (hE : rc_E Y s H) : ∀ w ∈ vx_at0 "RainCellar" 130 "java/lang/IllegalArgumentException" ["java/lang/RuntimeException", "java/lang/Exception"], w.before args s = true := rc_hat hts hE (rc_ps [73, 692, 701, 710, 713, 715, 693, 694, 98, 99, 695, 700, 711, 736, 682, 737, 684, 738, 686, 696, 698, 688, 1143, 1144, 1145, 911, 911, 912, 913, 914, 914, 915, 916, 693, 1142, 671, 679, 680, 681, 683, 685, 687, 691, 690, 689] (by decide +kernel)) (rc_ps [673, 675, 677, 672] (by decide +kernel)) (by decide +kernel)
set_option maxRecDepth 20000 in
theorem rc_hgd_3 : ∀ w ∈ Cond.classLink "RainCellar" 128 "java/lang/IllegalArgumentException" :: Cond.initialized "java/lang/IllegalArgumentException" :: vx_at0 "RainCellar" 130 "java/lang/IllegalArgumentException" ["java/lang/RuntimeException", "java/lang/Exception"], vx_ot w = true := by decide +kernel
theorem rc_hk_3 : Cond.classLink "RainCellar" 128 "java/lang/IllegalArgumentException" ∈ rc_big := rc_mem (rc_ps1 1141 (by decide +kernel)) rfl
theorem rc_hi_3 : Cond.initialized "java/lang/IllegalArgumentException" ∈ rc_big := rc_mem (rc_ps1 79 (by decide +kernel)) rfl
set_option maxRecDepth 20000 in
theorem rc_hat_4 {args : Array Value} {s : State} {Y : rc_Y} {H : Heap} (hts : ∀ w ∈ rc_big, w.before args s = true) (hE : rc_E Y s H) : ∀ w ∈ vx_at0 "RainCellar" 213 "java/util/NoSuchElementException" ["java/lang/RuntimeException", "java/lang/Exception"], w.before args s = true := rc_hat hts hE (rc_ps [73, 692, 701, 710, 713, 715, 693, 694, 98, 99, 695, 700, 711, 736, 682, 737, 684, 738, 686, 696, 698, 688, 1183, 1184, 1185, 911, 911, 912, 913, 914, 914, 915, 916, 693, 1182, 1174, 1176, 709, 1177, 1178, 1179, 1180, 691, 690, 1181] (by decide +kernel)) (rc_ps [673, 675, 677, 1175] (by decide +kernel)) (by decide +kernel)
set_option maxRecDepth 20000 in
theorem rc_hgd_4 : ∀ w ∈ Cond.classLink "RainCellar" 211 "java/util/NoSuchElementException" :: Cond.initialized "java/util/NoSuchElementException" :: vx_at0 "RainCellar" 213 "java/util/NoSuchElementException" ["java/lang/RuntimeException", "java/lang/Exception"], vx_ot w = true := by decide +kernel
theorem rc_hk_4 : Cond.classLink "RainCellar" 211 "java/util/NoSuchElementException" ∈ rc_big := rc_mem (rc_ps1 1173 (by decide +kernel)) rfl
theorem rc_hi_4 : Cond.initialized "java/util/NoSuchElementException" ∈ rc_big := rc_mem (rc_ps1 80 (by decide +kernel)) rfl
set_option maxRecDepth 20000 in
theorem rc_hat_5 {args : Array Value} {s : State} {Y : rc_Y} {H : Heap} (hts : ∀ w ∈ rc_big, w.before args s = true) (hE : rc_E Y s H) : ∀ w ∈ vx_at0 "RainCellar" 263 "java/lang/IllegalStateException" ["java/lang/RuntimeException", "java/lang/Exception"], w.before args s = true := rc_hat hts hE (rc_ps [73, 692, 701, 710, 713, 715, 693, 694, 98, 99, 695, 700, 711, 736, 682, 737, 684, 738, 686, 696, 698, 688, 1343, 1344, 1345, 911, 911, 912, 913, 914, 914, 915, 916, 693, 1342, 1334, 1336, 705, 1337, 1338, 1339, 1340, 691, 690, 1341] (by decide +kernel)) (rc_ps [673, 675, 677, 1335] (by decide +kernel)) (by decide +kernel)
set_option maxRecDepth 20000 in
theorem rc_hgd_5 : ∀ w ∈ Cond.classLink "RainCellar" 261 "java/lang/IllegalStateException" :: Cond.initialized "java/lang/IllegalStateException" :: vx_at0 "RainCellar" 263 "java/lang/IllegalStateException" ["java/lang/RuntimeException", "java/lang/Exception"], vx_ot w = true := by decide +kernel
theorem rc_hk_5 : Cond.classLink "RainCellar" 261 "java/lang/IllegalStateException" ∈ rc_big := rc_mem (rc_ps1 1333 (by decide +kernel)) rfl
theorem rc_hi_5 : Cond.initialized "java/lang/IllegalStateException" ∈ rc_big := rc_mem (rc_ps1 81 (by decide +kernel)) rfl
set_option maxRecDepth 20000 in
theorem rc_hat_6 {args : Array Value} {s : State} {Y : rc_Y} {H : Heap} (hts : ∀ w ∈ rc_big, w.before args s = true) (hE : rc_E Y s H) : ∀ w ∈ vx_at0 "RainCellar" 338 "java/lang/ArithmeticException" ["java/lang/RuntimeException", "java/lang/Exception"], w.before args s = true := rc_hat hts hE (rc_ps [73, 692, 701, 710, 713, 715, 693, 694, 98, 99, 695, 700, 711, 736, 682, 737, 684, 738, 686, 696, 698, 688, 1517, 1518, 1519, 911, 911, 912, 913, 914, 914, 915, 916, 693, 1516, 1498, 1510, 703, 1504, 1505, 1507, 1503, 691, 690, 1502] (by decide +kernel)) (rc_ps [673, 675, 677, 1509] (by decide +kernel)) (by decide +kernel)
set_option maxRecDepth 20000 in
theorem rc_hgd_6 : ∀ w ∈ Cond.classLink "RainCellar" 336 "java/lang/ArithmeticException" :: Cond.initialized "java/lang/ArithmeticException" :: vx_at0 "RainCellar" 338 "java/lang/ArithmeticException" ["java/lang/RuntimeException", "java/lang/Exception"], vx_ot w = true := by decide +kernel
theorem rc_hk_6 : Cond.classLink "RainCellar" 336 "java/lang/ArithmeticException" ∈ rc_big := rc_mem (rc_ps1 1515 (by decide +kernel)) rfl
theorem rc_hi_6 : Cond.initialized "java/lang/ArithmeticException" ∈ rc_big := rc_mem (rc_ps1 91 (by decide +kernel)) rfl
