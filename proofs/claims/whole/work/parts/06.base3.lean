/-! methods that throw -/
theorem rc_ps {L : List Cond} (ps : List Nat) (h : L = ps.filterMap (fun i => lw_tbl[i]?)) : ∀ w ∈ L, w ∈ lw_tbl := by
  intro w hw
  rw [h] at hw
  obtain ⟨i, -, hi⟩ := List.mem_filterMap.mp hw
  exact List.mem_of_getElem? hi
theorem rc_ps1 {w : Cond} (i : Nat) (h : lw_tbl[i]? = some w) : w ∈ lw_tbl := List.mem_of_getElem? h
theorem rc_hat {args : Array Value} {s : State} {Y : rc_Y} {H : Heap} {L : List Cond} (hts : ∀ w ∈ rc_big, w.before args s = true) (hE : rc_E Y s H) (h1 : ∀ w ∈ L.filter goodWord, w ∈ lw_tbl) (h2 : ∀ w ∈ L.filter (fun w => !goodWord w), w ∈ lw_tbl) (h3 : (L.filter (fun w => !goodWord w)).all rc_nwok = true) : ∀ w ∈ L, w.before args s = true := by
  refine vx_hat (B := L.filter (fun w => !goodWord w)) (fun w hw => hts w (rc_mem (h1 w hw) (List.mem_filter.mp hw).2)) (fun w hw => hw) (fun w hw => ?_)
  have hk : rc_nwok w = true := List.all_eq_true.mp h3 w hw
  have ht : w ∈ tables_1 := by
    rcases List.mem_append.mp (h2 w hw) with h | h
    · obtain ⟨q, -, rfl⟩ := List.mem_map.mp h
      cases hk
    · exact h
  refine va_Nw.use ?_ (rc_E_nw hE w (List.mem_filter.mpr ⟨ht, hk⟩))
  cases w <;> first | rfl | cases hk
set_option maxRecDepth 20000 in
theorem rc_hat_1 {args : Array Value} {s : State} {Y : rc_Y} {H : Heap} (hts : ∀ w ∈ rc_big, w.before args s = true) (hE : rc_E Y s H) : ∀ w ∈ vx_at0 "RainCellar" 294 "java/lang/UnsupportedOperationException" ["java/lang/RuntimeException", "java/lang/Exception"], w.before args s = true := rc_hat hts hE (rc_ps [73, 691, 700, 709, 712, 714, 692, 693, 97, 98, 694, 699, 710, 735, 681, 736, 683, 737, 685, 695, 697, 687, 907, 908, 909, 910, 910, 911, 912, 913, 913, 914, 915, 692, 906, 898, 900, 707, 901, 902, 903, 904, 690, 689, 905] (by decide +kernel)) (rc_ps [672, 674, 676, 899] (by decide +kernel)) (by decide +kernel)
set_option maxRecDepth 20000 in
theorem rc_hgd_1 : ∀ w ∈ Cond.classLink "RainCellar" 292 "java/lang/UnsupportedOperationException" :: Cond.initialized "java/lang/UnsupportedOperationException" :: vx_at0 "RainCellar" 294 "java/lang/UnsupportedOperationException" ["java/lang/RuntimeException", "java/lang/Exception"], vx_ot w = true := by decide +kernel
theorem rc_hk_1 : Cond.classLink "RainCellar" 292 "java/lang/UnsupportedOperationException" ∈ rc_big := rc_mem (rc_ps1 897 (by decide +kernel)) rfl
theorem rc_hi_1 : Cond.initialized "java/lang/UnsupportedOperationException" ∈ rc_big := rc_mem (rc_ps1 76 (by decide +kernel)) rfl
set_option maxRecDepth 20000 in
theorem rc_hat_2 {args : Array Value} {s : State} {Y : rc_Y} {H : Heap} (hts : ∀ w ∈ rc_big, w.before args s = true) (hE : rc_E Y s H) : ∀ w ∈ vx_at0 "RainCellar" 114 "java/lang/IndexOutOfBoundsException" ["java/lang/RuntimeException", "java/lang/Exception"], w.before args s = true := rc_hat hts hE (rc_ps [73, 691, 700, 709, 712, 714, 692, 693, 97, 98, 694, 699, 710, 735, 681, 736, 683, 737, 685, 695, 697, 687, 1122, 1123, 1124, 910, 910, 911, 912, 913, 913, 914, 915, 692, 1121, 1113, 1115, 705, 1116, 1117, 1118, 1119, 690, 689, 1120] (by decide +kernel)) (rc_ps [672, 674, 676, 1114] (by decide +kernel)) (by decide +kernel)
set_option maxRecDepth 20000 in
theorem rc_hgd_2 : ∀ w ∈ Cond.classLink "RainCellar" 112 "java/lang/IndexOutOfBoundsException" :: Cond.initialized "java/lang/IndexOutOfBoundsException" :: vx_at0 "RainCellar" 114 "java/lang/IndexOutOfBoundsException" ["java/lang/RuntimeException", "java/lang/Exception"], vx_ot w = true := by decide +kernel
theorem rc_hk_2 : Cond.classLink "RainCellar" 112 "java/lang/IndexOutOfBoundsException" ∈ rc_big := rc_mem (rc_ps1 1112 (by decide +kernel)) rfl
theorem rc_hi_2 : Cond.initialized "java/lang/IndexOutOfBoundsException" ∈ rc_big := rc_mem (rc_ps1 77 (by decide +kernel)) rfl
set_option maxRecDepth 20000 in
theorem rc_hat_3 {args : Array Value} {s : State} {Y : rc_Y} {H : Heap} (hts : ∀ w ∈ rc_big, w.before args s = true) (hE : rc_E Y s H) : ∀ w ∈ vx_at0 "RainCellar" 130 "java/lang/IllegalArgumentException" ["java/lang/RuntimeException", "java/lang/Exception"], w.before args s = true := rc_hat hts hE (rc_ps [73, 691, 700, 709, 712, 714, 692, 693, 97, 98, 694, 699, 710, 735, 681, 736, 683, 737, 685, 695, 697, 687, 1142, 1143, 1144, 910, 910, 911, 912, 913, 913, 914, 915, 692, 1141, 670, 678, 679, 680, 682, 684, 686, 690, 689, 688] (by decide +kernel)) (rc_ps [672, 674, 676, 671] (by decide +kernel)) (by decide +kernel)
set_option maxRecDepth 20000 in
theorem rc_hgd_3 : ∀ w ∈ Cond.classLink "RainCellar" 128 "java/lang/IllegalArgumentException" :: Cond.initialized "java/lang/IllegalArgumentException" :: vx_at0 "RainCellar" 130 "java/lang/IllegalArgumentException" ["java/lang/RuntimeException", "java/lang/Exception"], vx_ot w = true := by decide +kernel
theorem rc_hk_3 : Cond.classLink "RainCellar" 128 "java/lang/IllegalArgumentException" ∈ rc_big := rc_mem (rc_ps1 1140 (by decide +kernel)) rfl
theorem rc_hi_3 : Cond.initialized "java/lang/IllegalArgumentException" ∈ rc_big := rc_mem (rc_ps1 79 (by decide +kernel)) rfl
set_option maxRecDepth 20000 in
theorem rc_hat_4 {args : Array Value} {s : State} {Y : rc_Y} {H : Heap} (hts : ∀ w ∈ rc_big, w.before args s = true) (hE : rc_E Y s H) : ∀ w ∈ vx_at0 "RainCellar" 213 "java/util/NoSuchElementException" ["java/lang/RuntimeException", "java/lang/Exception"], w.before args s = true := rc_hat hts hE (rc_ps [73, 691, 700, 709, 712, 714, 692, 693, 97, 98, 694, 699, 710, 735, 681, 736, 683, 737, 685, 695, 697, 687, 1182, 1183, 1184, 910, 910, 911, 912, 913, 913, 914, 915, 692, 1181, 1173, 1175, 708, 1176, 1177, 1178, 1179, 690, 689, 1180] (by decide +kernel)) (rc_ps [672, 674, 676, 1174] (by decide +kernel)) (by decide +kernel)
set_option maxRecDepth 20000 in
theorem rc_hgd_4 : ∀ w ∈ Cond.classLink "RainCellar" 211 "java/util/NoSuchElementException" :: Cond.initialized "java/util/NoSuchElementException" :: vx_at0 "RainCellar" 213 "java/util/NoSuchElementException" ["java/lang/RuntimeException", "java/lang/Exception"], vx_ot w = true := by decide +kernel
theorem rc_hk_4 : Cond.classLink "RainCellar" 211 "java/util/NoSuchElementException" ∈ rc_big := rc_mem (rc_ps1 1172 (by decide +kernel)) rfl
theorem rc_hi_4 : Cond.initialized "java/util/NoSuchElementException" ∈ rc_big := rc_mem (rc_ps1 80 (by decide +kernel)) rfl
set_option maxRecDepth 20000 in
theorem rc_hat_5 {args : Array Value} {s : State} {Y : rc_Y} {H : Heap} (hts : ∀ w ∈ rc_big, w.before args s = true) (hE : rc_E Y s H) : ∀ w ∈ vx_at0 "RainCellar" 263 "java/lang/IllegalStateException" ["java/lang/RuntimeException", "java/lang/Exception"], w.before args s = true := rc_hat hts hE (rc_ps [73, 691, 700, 709, 712, 714, 692, 693, 97, 98, 694, 699, 710, 735, 681, 736, 683, 737, 685, 695, 697, 687, 1342, 1343, 1344, 910, 910, 911, 912, 913, 913, 914, 915, 692, 1341, 1333, 1335, 704, 1336, 1337, 1338, 1339, 690, 689, 1340] (by decide +kernel)) (rc_ps [672, 674, 676, 1334] (by decide +kernel)) (by decide +kernel)
set_option maxRecDepth 20000 in
theorem rc_hgd_5 : ∀ w ∈ Cond.classLink "RainCellar" 261 "java/lang/IllegalStateException" :: Cond.initialized "java/lang/IllegalStateException" :: vx_at0 "RainCellar" 263 "java/lang/IllegalStateException" ["java/lang/RuntimeException", "java/lang/Exception"], vx_ot w = true := by decide +kernel
theorem rc_hk_5 : Cond.classLink "RainCellar" 261 "java/lang/IllegalStateException" ∈ rc_big := rc_mem (rc_ps1 1332 (by decide +kernel)) rfl
theorem rc_hi_5 : Cond.initialized "java/lang/IllegalStateException" ∈ rc_big := rc_mem (rc_ps1 81 (by decide +kernel)) rfl
set_option maxRecDepth 20000 in
theorem rc_hat_6 {args : Array Value} {s : State} {Y : rc_Y} {H : Heap} (hts : ∀ w ∈ rc_big, w.before args s = true) (hE : rc_E Y s H) : ∀ w ∈ vx_at0 "RainCellar" 338 "java/lang/ArithmeticException" ["java/lang/RuntimeException", "java/lang/Exception"], w.before args s = true := rc_hat hts hE (rc_ps [73, 691, 700, 709, 712, 714, 692, 693, 97, 98, 694, 699, 710, 735, 681, 736, 683, 737, 685, 695, 697, 687, 1469, 1470, 1471, 910, 910, 911, 912, 913, 913, 914, 915, 692, 1468, 1450, 1462, 702, 1456, 1457, 1459, 1455, 690, 689, 1454] (by decide +kernel)) (rc_ps [672, 674, 676, 1461] (by decide +kernel)) (by decide +kernel)
set_option maxRecDepth 20000 in
theorem rc_hgd_6 : ∀ w ∈ Cond.classLink "RainCellar" 336 "java/lang/ArithmeticException" :: Cond.initialized "java/lang/ArithmeticException" :: vx_at0 "RainCellar" 338 "java/lang/ArithmeticException" ["java/lang/RuntimeException", "java/lang/Exception"], vx_ot w = true := by decide +kernel
theorem rc_hk_6 : Cond.classLink "RainCellar" 336 "java/lang/ArithmeticException" ∈ rc_big := rc_mem (rc_ps1 1467 (by decide +kernel)) rfl
theorem rc_hi_6 : Cond.initialized "java/lang/ArithmeticException" ∈ rc_big := rc_mem (rc_ps1 90 (by decide +kernel)) rfl
