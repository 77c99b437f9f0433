theorem kb_16 : (Int8.ofInt (16)).toInt32 = (16 : Int32) := by decide +kernel
theorem kb_63 : (Int8.ofInt (63)).toInt32 = (63 : Int32) := by decide +kernel
theorem kb_8 : (Int8.ofInt (8)).toInt32 = (8 : Int32) := by decide +kernel
theorem ki_0 : Int32.ofInt (0) = (0 : Int32) := by decide +kernel
theorem ki_1 : Int32.ofInt (1) = (1 : Int32) := by decide +kernel
theorem ki_2 : Int32.ofInt (2) = (2 : Int32) := by decide +kernel
theorem ki_3 : Int32.ofInt (3) = (3 : Int32) := by decide +kernel
theorem ki_4 : Int32.ofInt (4) = (4 : Int32) := by decide +kernel
def Y_Math_abs : zY := (⟨"java/lang/Math", "abs", "(I)I"⟩, prog_16_method_59_code, 1, some .int, [])
def Y_Math_max : zY := (⟨"java/lang/Math", "max", "(II)I"⟩, prog_16_method_65_code, 2, some .int, [])
def Y_Math_min : zY := (⟨"java/lang/Math", "min", "(II)I"⟩, prog_16_method_69_code, 2, some .int, [])
def Y_Math_floorMod : zY := (⟨"java/lang/Math", "floorMod", "(II)I"⟩, prog_16_method_50_code, 3, some .int, [])
def Y_Integer_bitCount : zY := (⟨"java/lang/Integer", "bitCount", "(I)I"⟩, prog_15_method_49_code, 1, some .int, [])
theorem w_k_Integer_265 : Cond.constant "java/lang/Integer" 265 1431655765 ∈ zWd := zin 532 (by decide +kernel) rfl
theorem w_k_Integer_266 : Cond.constant "java/lang/Integer" 266 858993459 ∈ zWd := zin 533 (by decide +kernel) rfl
theorem w_k_Integer_267 : Cond.constant "java/lang/Integer" 267 252645135 ∈ zWd := zin 534 (by decide +kernel) rfl
def Y_Arrays_fill : zY := (⟨"java/util/Arrays", "fill", "([II)V"⟩, prog_21_method_103_code, 4, none, [])
def Y_Sirens_has : zY := (⟨"SirenFair$Sirens", "has", "(I)Z"⟩, prog_7_method_3_code, 2, some .boolean, [])
theorem w_fl_Sirens_34 : Cond.fieldLink "SirenFair$Sirens" 34 "SirenFair$Sirens" "count" "I" ∈ zWd := zin 108 (by decide +kernel) rfl
theorem in_Sirens : ∀ w ∈ u_ws "SirenFair$Sirens" T_Sirens 8, w ∈ zWd := by decide +kernel
theorem zc_Sirens : zcls 6 "SirenFair$Sirens" T_Sirens 8 ty_Sirens := ⟨rfl, in_Sirens, nm_Sirens, tyok_Sirens⟩
theorem fl_Sirens_34 : zfl "SirenFair$Sirens" 34 6 7 (.int) false := ⟨_, _, _, _, zc_Sirens, by decide, w_fl_Sirens_34, rfl, rfl, rfl⟩
def Y_Sirens_nextPlace : zY := (⟨"SirenFair$Sirens", "nextPlace", "(II)I"⟩, prog_7_method_9_code, 5, some .int, [])
theorem w_fl_Sirens_18 : Cond.fieldLink "SirenFair$Sirens" 18 "SirenFair$Sirens" "r" "[I" ∈ zWd := zin 97 (by decide +kernel) rfl
theorem fl_Sirens_18 : zfl "SirenFair$Sirens" 18 6 2 (.array (.int)) true := ⟨_, _, _, _, zc_Sirens, by decide, w_fl_Sirens_18, rfl, rfl, rfl⟩
theorem w_fl_Sirens_21 : Cond.fieldLink "SirenFair$Sirens" 21 "SirenFair$Sirens" "speed" "[I" ∈ zWd := zin 99 (by decide +kernel) rfl
theorem fl_Sirens_21 : zfl "SirenFair$Sirens" 21 6 3 (.array (.int)) true := ⟨_, _, _, _, zc_Sirens, by decide, w_fl_Sirens_21, rfl, rfl, rfl⟩
def Y_Sirens_goOn : zY := (⟨"SirenFair$Sirens", "goOn", "()V"⟩, prog_7_method_8_code, 2, none, [])
theorem w_fl_Sirens_30 : Cond.fieldLink "SirenFair$Sirens" 30 "SirenFair$Sirens" "on" "[Z" ∈ zWd := zin 106 (by decide +kernel) rfl
theorem fl_Sirens_30 : zfl "SirenFair$Sirens" 30 6 6 (.array (.boolean)) true := ⟨_, _, _, _, zc_Sirens, by decide, w_fl_Sirens_30, rfl, rfl, rfl⟩
theorem w_fl_Sirens_27 : Cond.fieldLink "SirenFair$Sirens" 27 "SirenFair$Sirens" "place" "[I" ∈ zWd := zin 104 (by decide +kernel) rfl
theorem fl_Sirens_27 : zfl "SirenFair$Sirens" 27 6 5 (.array (.int)) true := ⟨_, _, _, _, zc_Sirens, by decide, w_fl_Sirens_27, rfl, rfl, rfl⟩
theorem w_c_Sirens_nextPlace : Cond.code Y_Sirens_nextPlace.1 Y_Sirens_nextPlace.2.1 Y_Sirens_nextPlace.2.2.1 Y_Sirens_nextPlace.2.2.2.1 ∈ zWd := zin 444 (by decide +kernel) rfl
theorem w_ini_Sirens : Cond.initialized "SirenFair$Sirens" ∈ zWd := zin 29 (by decide +kernel) rfl
theorem lk_Sirens_nextPlace : zlk Y_Sirens_nextPlace 2 := ⟨w_c_Sirens_nextPlace, w_ini_Sirens, by decide +kernel, by decide +kernel, by decide⟩
theorem w_ml_Sirens_48 : Cond.methodLink "SirenFair$Sirens" 48 Y_Sirens_nextPlace.1 ∈ zWd := zin 441 (by decide +kernel) rfl
theorem w_im_Sirens_nextPlace : Cond.instanceMethod Y_Sirens_nextPlace.1 ∈ zWd := zin 443 (by decide +kernel) rfl
theorem w_sel_Sirens_nextPlace : Cond.selects "SirenFair$Sirens" Y_Sirens_nextPlace.1 Y_Sirens_nextPlace.1 ∈ zWd := zin 6 (by decide +kernel) rfl
theorem lkV_Sirens_48 : zlkV "SirenFair$Sirens" 48 Y_Sirens_nextPlace 2 := ⟨lk_Sirens_nextPlace, w_ml_Sirens_48, w_im_Sirens_nextPlace, w_sel_Sirens_nextPlace⟩
def Y_Sirens_placeX : zY := (⟨"SirenFair$Sirens", "placeX", "(I)I"⟩, prog_7_method_13_code, 5, some .int, [])
theorem w_fl_Sirens_11 : Cond.fieldLink "SirenFair$Sirens" 11 "SirenFair$Sirens" "x" "[I" ∈ zWd := zin 93 (by decide +kernel) rfl
theorem fl_Sirens_11 : zfl "SirenFair$Sirens" 11 6 0 (.array (.int)) true := ⟨_, _, _, _, zc_Sirens, by decide, w_fl_Sirens_11, rfl, rfl, rfl⟩
theorem d_Math_abs_0 : decode Y_Math_abs.2.1 0 = .ok (.iload_n 0, 1) := by decide +kernel
theorem d_Math_abs_1 : decode Y_Math_abs.2.1 1 = .ok (.ifCond .ge (8), 3) := by decide +kernel
theorem d_Math_abs_4 : decode Y_Math_abs.2.1 4 = .ok (.iload_n 0, 1) := by decide +kernel
theorem d_Math_abs_5 : decode Y_Math_abs.2.1 5 = .ok (.ineg, 1) := by decide +kernel
theorem d_Math_abs_6 : decode Y_Math_abs.2.1 6 = .ok (.goto (4), 3) := by decide +kernel
theorem d_Math_abs_9 : decode Y_Math_abs.2.1 9 = .ok (.iload_n 0, 1) := by decide +kernel
theorem d_Math_abs_10 : decode Y_Math_abs.2.1 10 = .ok (.ireturn, 1) := by decide +kernel
def f_Math_abs (z : zT) (D : zD) (x0 : Int32) : Option (Int32 × zD) := zjp (fun (s0 : Int32) (D1 : zD) => some (s0, D1)) (fun j10 => (if 0 ≤ x0 then j10 x0 D else j10 (-x0) D))
set_option maxHeartbeats 4000000 in
set_option maxRecDepth 100000 in
theorem c_Math_abs (z : zT) (D : zD) (x0 : Int32) : zM Y_Math_abs 1 0 0 (zqI z) (f_Math_abs z D x0) [.int x0] z D := by
  refine zM_of (by decide +kernel) rfl (Nat.le_of_ble_eq_true rfl) (fun _ _ _ _ h => nomatch h.1) (fun K => ?_)
  unfold f_Math_abs
  refine z_jp (fun j10 : Int32 → zD → Option (Int32 × zD) => ∀ (s0 : Int32) (D1 : zD), zGO K Y_Math_abs 1 0 0 (zqI z) (j10 s0 D1) 0 0 z D1 10 [] [.int s0]) (fun s0 D1 => ?_) (fun j10 h10 => ?_)
  · exact z_iret (pc := 10) d_Math_abs_10 rfl
  · refine z_iload_n (pc := 0) d_Math_abs_0 rfl 0 rfl ?_
    refine z_if_ge (pc := 1) (tgt := 9) d_Math_abs_1 (by decide) ?_ ?_
    · refine z_iload_n (pc := 9) d_Math_abs_9 rfl 0 rfl ?_
      exact z_sub [] rfl (h10 x0 D)
    · refine z_iload_n (pc := 4) d_Math_abs_4 rfl 0 rfl ?_
      refine z_ineg (pc := 5) d_Math_abs_5 ?_
      refine z_goto (pc := 6) (tgt := 10) d_Math_abs_6 (by decide) ?_
      exact z_sub [] rfl (h10 (-x0) D)
theorem d_Math_max_0 : decode Y_Math_max.2.1 0 = .ok (.iload_n 0, 1) := by decide +kernel
theorem d_Math_max_1 : decode Y_Math_max.2.1 1 = .ok (.iload_n 1, 1) := by decide +kernel
theorem d_Math_max_2 : decode Y_Math_max.2.1 2 = .ok (.if_icmp .lt (7), 3) := by decide +kernel
theorem d_Math_max_5 : decode Y_Math_max.2.1 5 = .ok (.iload_n 0, 1) := by decide +kernel
theorem d_Math_max_6 : decode Y_Math_max.2.1 6 = .ok (.goto (4), 3) := by decide +kernel
theorem d_Math_max_9 : decode Y_Math_max.2.1 9 = .ok (.iload_n 1, 1) := by decide +kernel
theorem d_Math_max_10 : decode Y_Math_max.2.1 10 = .ok (.ireturn, 1) := by decide +kernel
def f_Math_max (z : zT) (D : zD) (x0 : Int32) (x1 : Int32) : Option (Int32 × zD) := zjp (fun (s0 : Int32) (D1 : zD) => some (s0, D1)) (fun j10 => (if x0 < x1 then j10 x1 D else j10 x0 D))
set_option maxHeartbeats 4000000 in
set_option maxRecDepth 100000 in
theorem c_Math_max (z : zT) (D : zD) (x0 : Int32) (x1 : Int32) : zM Y_Math_max 1 0 0 (zqI z) (f_Math_max z D x0 x1) [.int x0, .int x1] z D := by
  refine zM_of (by decide +kernel) rfl (Nat.le_of_ble_eq_true rfl) (fun _ _ _ _ h => nomatch h.1) (fun K => ?_)
  unfold f_Math_max
  refine z_jp (fun j10 : Int32 → zD → Option (Int32 × zD) => ∀ (s0 : Int32) (D1 : zD), zGO K Y_Math_max 1 0 0 (zqI z) (j10 s0 D1) 0 0 z D1 10 [] [.int s0]) (fun s0 D1 => ?_) (fun j10 h10 => ?_)
  · exact z_iret (pc := 10) d_Math_max_10 rfl
  · refine z_iload_n (pc := 0) d_Math_max_0 rfl 0 rfl ?_
    refine z_iload_n (pc := 1) d_Math_max_1 rfl 1 rfl ?_
    refine z_icmp_lt (pc := 2) (tgt := 9) d_Math_max_2 (by decide) ?_ ?_
    · refine z_iload_n (pc := 9) d_Math_max_9 rfl 1 rfl ?_
      exact z_sub [] rfl (h10 x1 D)
    · refine z_iload_n (pc := 5) d_Math_max_5 rfl 0 rfl ?_
      refine z_goto (pc := 6) (tgt := 10) d_Math_max_6 (by decide) ?_
      exact z_sub [] rfl (h10 x0 D)
theorem d_Math_min_0 : decode Y_Math_min.2.1 0 = .ok (.iload_n 0, 1) := by decide +kernel
theorem d_Math_min_1 : decode Y_Math_min.2.1 1 = .ok (.iload_n 1, 1) := by decide +kernel
theorem d_Math_min_2 : decode Y_Math_min.2.1 2 = .ok (.if_icmp .gt (7), 3) := by decide +kernel
theorem d_Math_min_5 : decode Y_Math_min.2.1 5 = .ok (.iload_n 0, 1) := by decide +kernel
theorem d_Math_min_6 : decode Y_Math_min.2.1 6 = .ok (.goto (4), 3) := by decide +kernel
theorem d_Math_min_9 : decode Y_Math_min.2.1 9 = .ok (.iload_n 1, 1) := by decide +kernel
theorem d_Math_min_10 : decode Y_Math_min.2.1 10 = .ok (.ireturn, 1) := by decide +kernel
def f_Math_min (z : zT) (D : zD) (x0 : Int32) (x1 : Int32) : Option (Int32 × zD) := zjp (fun (s0 : Int32) (D1 : zD) => some (s0, D1)) (fun j10 => (if x1 < x0 then j10 x1 D else j10 x0 D))
set_option maxHeartbeats 4000000 in
set_option maxRecDepth 100000 in
theorem c_Math_min (z : zT) (D : zD) (x0 : Int32) (x1 : Int32) : zM Y_Math_min 1 0 0 (zqI z) (f_Math_min z D x0 x1) [.int x0, .int x1] z D := by
  refine zM_of (by decide +kernel) rfl (Nat.le_of_ble_eq_true rfl) (fun _ _ _ _ h => nomatch h.1) (fun K => ?_)
  unfold f_Math_min
  refine z_jp (fun j10 : Int32 → zD → Option (Int32 × zD) => ∀ (s0 : Int32) (D1 : zD), zGO K Y_Math_min 1 0 0 (zqI z) (j10 s0 D1) 0 0 z D1 10 [] [.int s0]) (fun s0 D1 => ?_) (fun j10 h10 => ?_)
  · exact z_iret (pc := 10) d_Math_min_10 rfl
  · refine z_iload_n (pc := 0) d_Math_min_0 rfl 0 rfl ?_
    refine z_iload_n (pc := 1) d_Math_min_1 rfl 1 rfl ?_
    refine z_icmp_gt (pc := 2) (tgt := 9) d_Math_min_2 (by decide) ?_ ?_
    · refine z_iload_n (pc := 9) d_Math_min_9 rfl 1 rfl ?_
      exact z_sub [] rfl (h10 x1 D)
    · refine z_iload_n (pc := 5) d_Math_min_5 rfl 0 rfl ?_
      refine z_goto (pc := 6) (tgt := 10) d_Math_min_6 (by decide) ?_
      exact z_sub [] rfl (h10 x0 D)
theorem d_Math_floorMod_0 : decode Y_Math_floorMod.2.1 0 = .ok (.iload_n 0, 1) := by decide +kernel
theorem d_Math_floorMod_1 : decode Y_Math_floorMod.2.1 1 = .ok (.iload_n 1, 1) := by decide +kernel
theorem d_Math_floorMod_2 : decode Y_Math_floorMod.2.1 2 = .ok (.irem, 1) := by decide +kernel
theorem d_Math_floorMod_3 : decode Y_Math_floorMod.2.1 3 = .ok (.istore_n 2, 1) := by decide +kernel
theorem d_Math_floorMod_4 : decode Y_Math_floorMod.2.1 4 = .ok (.iload_n 0, 1) := by decide +kernel
theorem d_Math_floorMod_5 : decode Y_Math_floorMod.2.1 5 = .ok (.iload_n 1, 1) := by decide +kernel
theorem d_Math_floorMod_6 : decode Y_Math_floorMod.2.1 6 = .ok (.ixor, 1) := by decide +kernel
theorem d_Math_floorMod_7 : decode Y_Math_floorMod.2.1 7 = .ok (.ifCond .ge (11), 3) := by decide +kernel
theorem d_Math_floorMod_10 : decode Y_Math_floorMod.2.1 10 = .ok (.iload_n 2, 1) := by decide +kernel
theorem d_Math_floorMod_11 : decode Y_Math_floorMod.2.1 11 = .ok (.ifCond .eq (7), 3) := by decide +kernel
theorem d_Math_floorMod_14 : decode Y_Math_floorMod.2.1 14 = .ok (.iload_n 2, 1) := by decide +kernel
theorem d_Math_floorMod_15 : decode Y_Math_floorMod.2.1 15 = .ok (.iload_n 1, 1) := by decide +kernel
theorem d_Math_floorMod_16 : decode Y_Math_floorMod.2.1 16 = .ok (.iadd, 1) := by decide +kernel
theorem d_Math_floorMod_17 : decode Y_Math_floorMod.2.1 17 = .ok (.ireturn, 1) := by decide +kernel
theorem d_Math_floorMod_18 : decode Y_Math_floorMod.2.1 18 = .ok (.iload_n 2, 1) := by decide +kernel
theorem d_Math_floorMod_19 : decode Y_Math_floorMod.2.1 19 = .ok (.ireturn, 1) := by decide +kernel
def f_Math_floorMod (z : zT) (D : zD) (x0 : Int32) (x1 : Int32) : Option (Int32 × zD) := zjp (fun (x2 : Int32) (D1 : zD) => some (x2, D1)) (fun j18 => zchk (¬ x1 = 0) (zlet (zirem x0 x1) (fun v2 => (if 0 ≤ (x0 ^^^ x1) then j18 v2 D else (if v2 = 0 then j18 v2 D else some (v2 + x1, D))))))
set_option maxHeartbeats 4000000 in
set_option maxRecDepth 100000 in
theorem c_Math_floorMod (z : zT) (D : zD) (x0 : Int32) (x1 : Int32) : zM Y_Math_floorMod 1 0 0 (zqI z) (f_Math_floorMod z D x0 x1) [.int x0, .int x1] z D := by
  refine zM_of (by decide +kernel) rfl (Nat.le_of_ble_eq_true rfl) (fun _ _ _ _ h => nomatch h.1) (fun K => ?_)
  unfold f_Math_floorMod
  refine z_jp (fun j18 : Int32 → zD → Option (Int32 × zD) => ∀ (x2 : Int32) (D1 : zD), zGO K Y_Math_floorMod 1 0 0 (zqI z) (j18 x2 D1) 0 0 z D1 18 [(2, .int x2)] []) (fun x2 D1 => ?_) (fun j18 h18 => ?_)
  · refine z_iload_n (pc := 18) d_Math_floorMod_18 rfl 0 rfl ?_
    exact z_iret (pc := 19) d_Math_floorMod_19 rfl
  · refine z_iload_n (pc := 0) d_Math_floorMod_0 rfl 0 rfl ?_
    refine z_iload_n (pc := 1) d_Math_floorMod_1 rfl 1 rfl ?_
    refine z_irem (pc := 2) d_Math_floorMod_2 ?_
    refine z_leti (fun v2 => ?_)
    refine z_istore_n (pc := 3) d_Math_floorMod_3 rfl (by decide) (lv' := [(2, .int v2), (0, .int x0), (1, .int x1)]) rfl ?_
    refine z_iload_n (pc := 4) d_Math_floorMod_4 rfl 1 rfl ?_
    refine z_iload_n (pc := 5) d_Math_floorMod_5 rfl 2 rfl ?_
    refine z_ixor (pc := 6) d_Math_floorMod_6 ?_
    refine z_if_ge (pc := 7) (tgt := 18) d_Math_floorMod_7 (by decide) ?_ ?_
    · exact z_sub [0] rfl (h18 v2 D)
    · refine z_iload_n (pc := 10) d_Math_floorMod_10 rfl 0 rfl ?_
      refine z_if_eq (pc := 11) (tgt := 18) d_Math_floorMod_11 (by decide) ?_ ?_
      · exact z_sub [0] rfl (h18 v2 D)
      · refine z_iload_n (pc := 14) d_Math_floorMod_14 rfl 0 rfl ?_
        refine z_iload_n (pc := 15) d_Math_floorMod_15 rfl 2 rfl ?_
        refine z_iadd (pc := 16) d_Math_floorMod_16 ?_
        exact z_iret (pc := 17) d_Math_floorMod_17 rfl
theorem d_Integer_bitCount_0 : decode Y_Integer_bitCount.2.1 0 = .ok (.iload_n 0, 1) := by decide +kernel
theorem d_Integer_bitCount_1 : decode Y_Integer_bitCount.2.1 1 = .ok (.iload_n 0, 1) := by decide +kernel
theorem d_Integer_bitCount_2 : decode Y_Integer_bitCount.2.1 2 = .ok (.iconst (1), 1) := by decide +kernel
theorem d_Integer_bitCount_3 : decode Y_Integer_bitCount.2.1 3 = .ok (.iushr, 1) := by decide +kernel
theorem d_Integer_bitCount_4 : decode Y_Integer_bitCount.2.1 4 = .ok (.ldc_w 265, 3) := by decide +kernel
theorem d_Integer_bitCount_7 : decode Y_Integer_bitCount.2.1 7 = .ok (.iand, 1) := by decide +kernel
theorem d_Integer_bitCount_8 : decode Y_Integer_bitCount.2.1 8 = .ok (.isub, 1) := by decide +kernel
theorem d_Integer_bitCount_9 : decode Y_Integer_bitCount.2.1 9 = .ok (.istore_n 0, 1) := by decide +kernel
theorem d_Integer_bitCount_10 : decode Y_Integer_bitCount.2.1 10 = .ok (.iload_n 0, 1) := by decide +kernel
theorem d_Integer_bitCount_11 : decode Y_Integer_bitCount.2.1 11 = .ok (.ldc_w 266, 3) := by decide +kernel
theorem d_Integer_bitCount_14 : decode Y_Integer_bitCount.2.1 14 = .ok (.iand, 1) := by decide +kernel
theorem d_Integer_bitCount_15 : decode Y_Integer_bitCount.2.1 15 = .ok (.iload_n 0, 1) := by decide +kernel
theorem d_Integer_bitCount_16 : decode Y_Integer_bitCount.2.1 16 = .ok (.iconst (2), 1) := by decide +kernel
theorem d_Integer_bitCount_17 : decode Y_Integer_bitCount.2.1 17 = .ok (.iushr, 1) := by decide +kernel
theorem d_Integer_bitCount_18 : decode Y_Integer_bitCount.2.1 18 = .ok (.ldc_w 266, 3) := by decide +kernel
theorem d_Integer_bitCount_21 : decode Y_Integer_bitCount.2.1 21 = .ok (.iand, 1) := by decide +kernel
theorem d_Integer_bitCount_22 : decode Y_Integer_bitCount.2.1 22 = .ok (.iadd, 1) := by decide +kernel
theorem d_Integer_bitCount_23 : decode Y_Integer_bitCount.2.1 23 = .ok (.istore_n 0, 1) := by decide +kernel
theorem d_Integer_bitCount_24 : decode Y_Integer_bitCount.2.1 24 = .ok (.iload_n 0, 1) := by decide +kernel
theorem d_Integer_bitCount_25 : decode Y_Integer_bitCount.2.1 25 = .ok (.iload_n 0, 1) := by decide +kernel
theorem d_Integer_bitCount_26 : decode Y_Integer_bitCount.2.1 26 = .ok (.iconst (4), 1) := by decide +kernel
theorem d_Integer_bitCount_27 : decode Y_Integer_bitCount.2.1 27 = .ok (.iushr, 1) := by decide +kernel
theorem d_Integer_bitCount_28 : decode Y_Integer_bitCount.2.1 28 = .ok (.iadd, 1) := by decide +kernel
theorem d_Integer_bitCount_29 : decode Y_Integer_bitCount.2.1 29 = .ok (.ldc_w 267, 3) := by decide +kernel
theorem d_Integer_bitCount_32 : decode Y_Integer_bitCount.2.1 32 = .ok (.iand, 1) := by decide +kernel
theorem d_Integer_bitCount_33 : decode Y_Integer_bitCount.2.1 33 = .ok (.istore_n 0, 1) := by decide +kernel
theorem d_Integer_bitCount_34 : decode Y_Integer_bitCount.2.1 34 = .ok (.iload_n 0, 1) := by decide +kernel
theorem d_Integer_bitCount_35 : decode Y_Integer_bitCount.2.1 35 = .ok (.iload_n 0, 1) := by decide +kernel
theorem d_Integer_bitCount_36 : decode Y_Integer_bitCount.2.1 36 = .ok (.bipush (8), 2) := by decide +kernel
theorem d_Integer_bitCount_38 : decode Y_Integer_bitCount.2.1 38 = .ok (.iushr, 1) := by decide +kernel
theorem d_Integer_bitCount_39 : decode Y_Integer_bitCount.2.1 39 = .ok (.iadd, 1) := by decide +kernel
theorem d_Integer_bitCount_40 : decode Y_Integer_bitCount.2.1 40 = .ok (.istore_n 0, 1) := by decide +kernel
theorem d_Integer_bitCount_41 : decode Y_Integer_bitCount.2.1 41 = .ok (.iload_n 0, 1) := by decide +kernel
theorem d_Integer_bitCount_42 : decode Y_Integer_bitCount.2.1 42 = .ok (.iload_n 0, 1) := by decide +kernel
theorem d_Integer_bitCount_43 : decode Y_Integer_bitCount.2.1 43 = .ok (.bipush (16), 2) := by decide +kernel
theorem d_Integer_bitCount_45 : decode Y_Integer_bitCount.2.1 45 = .ok (.iushr, 1) := by decide +kernel
theorem d_Integer_bitCount_46 : decode Y_Integer_bitCount.2.1 46 = .ok (.iadd, 1) := by decide +kernel
theorem d_Integer_bitCount_47 : decode Y_Integer_bitCount.2.1 47 = .ok (.istore_n 0, 1) := by decide +kernel
theorem d_Integer_bitCount_48 : decode Y_Integer_bitCount.2.1 48 = .ok (.iload_n 0, 1) := by decide +kernel
theorem d_Integer_bitCount_49 : decode Y_Integer_bitCount.2.1 49 = .ok (.bipush (63), 2) := by decide +kernel
theorem d_Integer_bitCount_51 : decode Y_Integer_bitCount.2.1 51 = .ok (.iand, 1) := by decide +kernel
theorem d_Integer_bitCount_52 : decode Y_Integer_bitCount.2.1 52 = .ok (.ireturn, 1) := by decide +kernel
def f_Integer_bitCount (z : zT) (D : zD) (x0 : Int32) : Option (Int32 × zD) := zlet (x0 - (((x0.toUInt32 >>> ((1 : Int32).toUInt32 &&& Int32.toUInt32 31)).toInt32) &&& (1431655765 : Int32))) (fun v1 => zlet ((v1 &&& (858993459 : Int32)) + (((v1.toUInt32 >>> ((2 : Int32).toUInt32 &&& Int32.toUInt32 31)).toInt32) &&& (858993459 : Int32))) (fun v2 => zlet ((v2 + ((v2.toUInt32 >>> ((4 : Int32).toUInt32 &&& Int32.toUInt32 31)).toInt32)) &&& (252645135 : Int32)) (fun v3 => zlet (v3 + ((v3.toUInt32 >>> ((8 : Int32).toUInt32 &&& Int32.toUInt32 31)).toInt32)) (fun v4 => zlet (v4 + ((v4.toUInt32 >>> ((16 : Int32).toUInt32 &&& Int32.toUInt32 31)).toInt32)) (fun v5 => some (v5 &&& (63 : Int32), D))))))
set_option maxHeartbeats 4000000 in
set_option maxRecDepth 100000 in
theorem c_Integer_bitCount (z : zT) (D : zD) (x0 : Int32) : zM Y_Integer_bitCount 1 0 0 (zqI z) (f_Integer_bitCount z D x0) [.int x0] z D := by
  refine zM_of (by decide +kernel) rfl (Nat.le_of_ble_eq_true rfl) (fun _ _ _ _ h => nomatch h.1) (fun K => ?_)
  unfold f_Integer_bitCount
  refine z_iload_n (pc := 0) d_Integer_bitCount_0 rfl 0 rfl ?_
  refine z_iload_n (pc := 1) d_Integer_bitCount_1 rfl 0 rfl ?_
  refine z_iconst (pc := 2) d_Integer_bitCount_2 ki_1 ?_
  refine z_iushr (pc := 3) d_Integer_bitCount_3 ?_
  refine z_ldcw (pc := 4) w_k_Integer_265 d_Integer_bitCount_4 ?_
  refine z_iand (pc := 7) d_Integer_bitCount_7 ?_
  refine z_isub (pc := 8) d_Integer_bitCount_8 ?_
  refine z_leti (fun v1 => ?_)
  refine z_istore_n (pc := 9) d_Integer_bitCount_9 rfl (by decide) (lv' := [(0, .int v1)]) rfl ?_
  refine z_iload_n (pc := 10) d_Integer_bitCount_10 rfl 0 rfl ?_
  refine z_ldcw (pc := 11) w_k_Integer_266 d_Integer_bitCount_11 ?_
  refine z_iand (pc := 14) d_Integer_bitCount_14 ?_
  refine z_iload_n (pc := 15) d_Integer_bitCount_15 rfl 0 rfl ?_
  refine z_iconst (pc := 16) d_Integer_bitCount_16 ki_2 ?_
  refine z_iushr (pc := 17) d_Integer_bitCount_17 ?_
  refine z_ldcw (pc := 18) w_k_Integer_266 d_Integer_bitCount_18 ?_
  refine z_iand (pc := 21) d_Integer_bitCount_21 ?_
  refine z_iadd (pc := 22) d_Integer_bitCount_22 ?_
  refine z_leti (fun v2 => ?_)
  refine z_istore_n (pc := 23) d_Integer_bitCount_23 rfl (by decide) (lv' := [(0, .int v2)]) rfl ?_
  refine z_iload_n (pc := 24) d_Integer_bitCount_24 rfl 0 rfl ?_
  refine z_iload_n (pc := 25) d_Integer_bitCount_25 rfl 0 rfl ?_
  refine z_iconst (pc := 26) d_Integer_bitCount_26 ki_4 ?_
  refine z_iushr (pc := 27) d_Integer_bitCount_27 ?_
  refine z_iadd (pc := 28) d_Integer_bitCount_28 ?_
  refine z_ldcw (pc := 29) w_k_Integer_267 d_Integer_bitCount_29 ?_
  refine z_iand (pc := 32) d_Integer_bitCount_32 ?_
  refine z_leti (fun v3 => ?_)
  refine z_istore_n (pc := 33) d_Integer_bitCount_33 rfl (by decide) (lv' := [(0, .int v3)]) rfl ?_
  refine z_iload_n (pc := 34) d_Integer_bitCount_34 rfl 0 rfl ?_
  refine z_iload_n (pc := 35) d_Integer_bitCount_35 rfl 0 rfl ?_
  refine z_bipush (pc := 36) d_Integer_bitCount_36 kb_8 ?_
  refine z_iushr (pc := 38) d_Integer_bitCount_38 ?_
  refine z_iadd (pc := 39) d_Integer_bitCount_39 ?_
  refine z_leti (fun v4 => ?_)
  refine z_istore_n (pc := 40) d_Integer_bitCount_40 rfl (by decide) (lv' := [(0, .int v4)]) rfl ?_
  refine z_iload_n (pc := 41) d_Integer_bitCount_41 rfl 0 rfl ?_
  refine z_iload_n (pc := 42) d_Integer_bitCount_42 rfl 0 rfl ?_
  refine z_bipush (pc := 43) d_Integer_bitCount_43 kb_16 ?_
  refine z_iushr (pc := 45) d_Integer_bitCount_45 ?_
  refine z_iadd (pc := 46) d_Integer_bitCount_46 ?_
  refine z_leti (fun v5 => ?_)
  refine z_istore_n (pc := 47) d_Integer_bitCount_47 rfl (by decide) (lv' := [(0, .int v5)]) rfl ?_
  refine z_iload_n (pc := 48) d_Integer_bitCount_48 rfl 0 rfl ?_
  refine z_bipush (pc := 49) d_Integer_bitCount_49 kb_63 ?_
  refine z_iand (pc := 51) d_Integer_bitCount_51 ?_
  exact z_iret (pc := 52) d_Integer_bitCount_52 rfl
theorem d_Arrays_fill_0 : decode Y_Arrays_fill.2.1 0 = .ok (.iconst (0), 1) := by decide +kernel
theorem d_Arrays_fill_1 : decode Y_Arrays_fill.2.1 1 = .ok (.istore_n 2, 1) := by decide +kernel
theorem d_Arrays_fill_2 : decode Y_Arrays_fill.2.1 2 = .ok (.aload_n 0, 1) := by decide +kernel
theorem d_Arrays_fill_3 : decode Y_Arrays_fill.2.1 3 = .ok (.arraylength, 1) := by decide +kernel
theorem d_Arrays_fill_4 : decode Y_Arrays_fill.2.1 4 = .ok (.istore_n 3, 1) := by decide +kernel
theorem d_Arrays_fill_5 : decode Y_Arrays_fill.2.1 5 = .ok (.iload_n 2, 1) := by decide +kernel
theorem d_Arrays_fill_6 : decode Y_Arrays_fill.2.1 6 = .ok (.iload_n 3, 1) := by decide +kernel
theorem d_Arrays_fill_7 : decode Y_Arrays_fill.2.1 7 = .ok (.if_icmp .ge (13), 3) := by decide +kernel
theorem d_Arrays_fill_10 : decode Y_Arrays_fill.2.1 10 = .ok (.aload_n 0, 1) := by decide +kernel
theorem d_Arrays_fill_11 : decode Y_Arrays_fill.2.1 11 = .ok (.iload_n 2, 1) := by decide +kernel
theorem d_Arrays_fill_12 : decode Y_Arrays_fill.2.1 12 = .ok (.iload_n 1, 1) := by decide +kernel
theorem d_Arrays_fill_13 : decode Y_Arrays_fill.2.1 13 = .ok (.iastore, 1) := by decide +kernel
theorem d_Arrays_fill_14 : decode Y_Arrays_fill.2.1 14 = .ok (.iinc 2 (1), 3) := by decide +kernel
theorem d_Arrays_fill_17 : decode Y_Arrays_fill.2.1 17 = .ok (.goto (-12), 3) := by decide +kernel
theorem d_Arrays_fill_20 : decode Y_Arrays_fill.2.1 20 = .ok (.return_, 1) := by decide +kernel
def f_Arrays_fill (z : zT) (D : zD) (r0 : Nat) (x1 : Int32) : Option (zD) := zjp (zlp (fun (_ : Int32) (_ : Int32) (_ : zD) => none) (fun (j5 : Int32 → Int32 → zD → Option (zD)) (x2 : Int32) (x3 : Int32) (D1 : zD) => (if x3 ≤ x2 then some D1 else zast z D1 0 r0 x2 x1 (fun D2 => zlet (x2 + (1 : Int32)) (fun v3 => j5 v3 x3 D2)))) zfuel) (fun j5 => zlen z 0 r0 (fun v4 => j5 (0 : Int32) v4 D))
set_option maxHeartbeats 4000000 in
set_option maxRecDepth 100000 in
theorem c_Arrays_fill (z : zT) (D : zD) (r0 : Nat) (x1 : Int32) : zM Y_Arrays_fill 1 0 0 (zqV z) (f_Arrays_fill z D r0 x1) [.ref r0, .int x1] z D := by
  refine zM_of (by decide +kernel) rfl (Nat.le_of_ble_eq_true rfl) (fun _ _ _ _ h => nomatch h.1) (fun K => ?_)
  unfold f_Arrays_fill
  refine z_jp (fun j5 : Int32 → Int32 → zD → Option (zD) => ∀ (x2 : Int32) (x3 : Int32) (D1 : zD), zGO K Y_Arrays_fill 1 0 0 (zqV z) (j5 x2 x3 D1) 0 0 z D1 5 [(0, .ref r0), (1, .int x1), (2, .int x2), (3, .int x3)] []) (z_lp (fun j5 : Int32 → Int32 → zD → Option (zD) => ∀ (x2 : Int32) (x3 : Int32) (D1 : zD), zGO K Y_Arrays_fill 1 0 0 (zqV z) (j5 x2 x3 D1) 0 0 z D1 5 [(0, .ref r0), (1, .int x1), (2, .int x2), (3, .int x3)] []) (fun _ _ _ => z_none) (fun j5 h5 x2 x3 D1 => ?_) zfuel) (fun j5 h5 => ?_)
  · refine z_iload_n (pc := 5) d_Arrays_fill_5 rfl 2 rfl ?_
    refine z_iload_n (pc := 6) d_Arrays_fill_6 rfl 3 rfl ?_
    refine z_icmp_ge (pc := 7) (tgt := 20) d_Arrays_fill_7 (by decide) ?_ ?_
    · exact z_vret (pc := 20) d_Arrays_fill_20 rfl
    · refine z_aload_n (pc := 10) d_Arrays_fill_10 rfl 0 rfl ?_
      refine z_iload_n (pc := 11) d_Arrays_fill_11 rfl 2 rfl ?_
      refine z_iload_n (pc := 12) d_Arrays_fill_12 rfl 1 rfl ?_
      refine z_iastore (pc := 13) d_Arrays_fill_13 (fun D2 => ?_)
      refine z_iincL (pc := 14) d_Arrays_fill_14 ki_1 2 rfl (by decide) (fun v3 => z_lvc (lv2 := [(2, .int v3), (0, .ref r0), (1, .int x1), (3, .int x3)]) rfl ?_)
      refine z_goto (pc := 17) (tgt := 5) d_Arrays_fill_17 (by decide) ?_
      exact z_sub [1, 2, 0, 3] rfl (h5 v3 x3 D2)
  · refine z_iconst (pc := 0) d_Arrays_fill_0 ki_0 ?_
    refine z_istore_n (pc := 1) d_Arrays_fill_1 rfl (by decide) (lv' := [(2, .int (0 : Int32)), (0, .ref r0), (1, .int x1)]) rfl ?_
    refine z_aload_n (pc := 2) d_Arrays_fill_2 rfl 1 rfl ?_
    refine z_alen (pc := 3) d_Arrays_fill_3 (fun v4 => ?_)
    refine z_istore_n (pc := 4) d_Arrays_fill_4 rfl (by decide) (lv' := [(3, .int v4), (2, .int (0 : Int32)), (0, .ref r0), (1, .int x1)]) rfl ?_
    exact z_sub [2, 3, 1, 0] rfl (h5 (0 : Int32) v4 D)
theorem d_Sirens_has_0 : decode Y_Sirens_has.2.1 0 = .ok (.iload_n 1, 1) := by decide +kernel
theorem d_Sirens_has_1 : decode Y_Sirens_has.2.1 1 = .ok (.ifCond .lt (15), 3) := by decide +kernel
theorem d_Sirens_has_4 : decode Y_Sirens_has.2.1 4 = .ok (.iload_n 1, 1) := by decide +kernel
theorem d_Sirens_has_5 : decode Y_Sirens_has.2.1 5 = .ok (.aload_n 0, 1) := by decide +kernel
theorem d_Sirens_has_6 : decode Y_Sirens_has.2.1 6 = .ok (.getfield 34, 3) := by decide +kernel
theorem d_Sirens_has_9 : decode Y_Sirens_has.2.1 9 = .ok (.if_icmp .ge (7), 3) := by decide +kernel
theorem d_Sirens_has_12 : decode Y_Sirens_has.2.1 12 = .ok (.iconst (1), 1) := by decide +kernel
theorem d_Sirens_has_13 : decode Y_Sirens_has.2.1 13 = .ok (.goto (4), 3) := by decide +kernel
theorem d_Sirens_has_16 : decode Y_Sirens_has.2.1 16 = .ok (.iconst (0), 1) := by decide +kernel
theorem d_Sirens_has_17 : decode Y_Sirens_has.2.1 17 = .ok (.ireturn, 1) := by decide +kernel
def f_Sirens_has (z : zT) (D : zD) (a : Nat) (x1 : Int32) : Option (Int32 × zD) := zjp (fun (s0 : Int32) (D1 : zD) => zchk (s0 = 0 ∨ s0 = 1) (some (s0, D1))) (fun j17 => zjp (fun (D2 : zD) => j17 (0 : Int32) D2) (fun j16 => (if x1 < 0 then j16 D else zfld z D 6 7 a (fun v3 => (if v3 ≤ x1 then j16 D else j17 (1 : Int32) D)))))
set_option maxHeartbeats 4000000 in
set_option maxRecDepth 100000 in
theorem c_Sirens_has (z : zT) (D : zD) (a : Nat) (x1 : Int32) : zM Y_Sirens_has 1 0 0 (zqI z) (f_Sirens_has z D a x1) [.ref a, .int x1] z D := by
  refine zM_of (by decide +kernel) rfl (Nat.le_of_ble_eq_true rfl) (fun _ _ _ _ h => nomatch h.1) (fun K => ?_)
  unfold f_Sirens_has
  refine z_jp (fun j17 : Int32 → zD → Option (Int32 × zD) => ∀ (s0 : Int32) (D1 : zD), zGO K Y_Sirens_has 1 0 0 (zqI z) (j17 s0 D1) 0 0 z D1 17 [] [.int s0]) (fun s0 D1 => ?_) (fun j17 h17 => ?_)
  · exact z_zret (pc := 17) d_Sirens_has_17 rfl
  · refine z_jp (fun j16 : zD → Option (Int32 × zD) => ∀ (D2 : zD), zGO K Y_Sirens_has 1 0 0 (zqI z) (j16  D2) 0 0 z D2 16 [] []) (fun  D2 => ?_) (fun j16 h16 => ?_)
    · refine z_iconst (pc := 16) d_Sirens_has_16 ki_0 ?_
      exact z_sub [] rfl (h17 (0 : Int32) D2)
    · refine z_iload_n (pc := 0) d_Sirens_has_0 rfl 1 rfl ?_
      refine z_if_lt (pc := 1) (tgt := 16) d_Sirens_has_1 (by decide) ?_ ?_
      · exact z_sub [] rfl (h16 D)
      · refine z_iload_n (pc := 4) d_Sirens_has_4 rfl 1 rfl ?_
        refine z_aload_n (pc := 5) d_Sirens_has_5 rfl 0 rfl ?_
        refine z_getI (pc := 6) fl_Sirens_34 d_Sirens_has_6 (fun v3 => ?_)
        refine z_icmp_ge (pc := 9) (tgt := 16) d_Sirens_has_9 (by decide) ?_ ?_
        · exact z_sub [] rfl (h16 D)
        · refine z_iconst (pc := 12) d_Sirens_has_12 ki_1 ?_
          refine z_goto (pc := 13) (tgt := 17) d_Sirens_has_13 (by decide) ?_
          exact z_sub [] rfl (h17 (1 : Int32) D)
theorem d_Sirens_nextPlace_0 : decode Y_Sirens_nextPlace.2.1 0 = .ok (.bipush (8), 2) := by decide +kernel
theorem d_Sirens_nextPlace_2 : decode Y_Sirens_nextPlace.2.1 2 = .ok (.aload_n 0, 1) := by decide +kernel
theorem d_Sirens_nextPlace_3 : decode Y_Sirens_nextPlace.2.1 3 = .ok (.getfield 18, 3) := by decide +kernel
theorem d_Sirens_nextPlace_6 : decode Y_Sirens_nextPlace.2.1 6 = .ok (.iload_n 1, 1) := by decide +kernel
theorem d_Sirens_nextPlace_7 : decode Y_Sirens_nextPlace.2.1 7 = .ok (.iaload, 1) := by decide +kernel
theorem d_Sirens_nextPlace_8 : decode Y_Sirens_nextPlace.2.1 8 = .ok (.imul, 1) := by decide +kernel
theorem d_Sirens_nextPlace_9 : decode Y_Sirens_nextPlace.2.1 9 = .ok (.istore_n 3, 1) := by decide +kernel
theorem d_Sirens_nextPlace_10 : decode Y_Sirens_nextPlace.2.1 10 = .ok (.iload_n 2, 1) := by decide +kernel
theorem d_Sirens_nextPlace_11 : decode Y_Sirens_nextPlace.2.1 11 = .ok (.aload_n 0, 1) := by decide +kernel
theorem d_Sirens_nextPlace_12 : decode Y_Sirens_nextPlace.2.1 12 = .ok (.getfield 21, 3) := by decide +kernel
theorem d_Sirens_nextPlace_15 : decode Y_Sirens_nextPlace.2.1 15 = .ok (.iload_n 1, 1) := by decide +kernel
theorem d_Sirens_nextPlace_16 : decode Y_Sirens_nextPlace.2.1 16 = .ok (.iaload, 1) := by decide +kernel
theorem d_Sirens_nextPlace_17 : decode Y_Sirens_nextPlace.2.1 17 = .ok (.iadd, 1) := by decide +kernel
theorem d_Sirens_nextPlace_18 : decode Y_Sirens_nextPlace.2.1 18 = .ok (.istore 4, 2) := by decide +kernel
theorem d_Sirens_nextPlace_20 : decode Y_Sirens_nextPlace.2.1 20 = .ok (.iload 4, 2) := by decide +kernel
theorem d_Sirens_nextPlace_22 : decode Y_Sirens_nextPlace.2.1 22 = .ok (.ifCond .ge (8), 3) := by decide +kernel
theorem d_Sirens_nextPlace_25 : decode Y_Sirens_nextPlace.2.1 25 = .ok (.iload 4, 2) := by decide +kernel
theorem d_Sirens_nextPlace_27 : decode Y_Sirens_nextPlace.2.1 27 = .ok (.iload_n 3, 1) := by decide +kernel
theorem d_Sirens_nextPlace_28 : decode Y_Sirens_nextPlace.2.1 28 = .ok (.iadd, 1) := by decide +kernel
theorem d_Sirens_nextPlace_29 : decode Y_Sirens_nextPlace.2.1 29 = .ok (.ireturn, 1) := by decide +kernel
theorem d_Sirens_nextPlace_30 : decode Y_Sirens_nextPlace.2.1 30 = .ok (.iload 4, 2) := by decide +kernel
theorem d_Sirens_nextPlace_32 : decode Y_Sirens_nextPlace.2.1 32 = .ok (.iload_n 3, 1) := by decide +kernel
theorem d_Sirens_nextPlace_33 : decode Y_Sirens_nextPlace.2.1 33 = .ok (.if_icmp .lt (10), 3) := by decide +kernel
theorem d_Sirens_nextPlace_36 : decode Y_Sirens_nextPlace.2.1 36 = .ok (.iload 4, 2) := by decide +kernel
theorem d_Sirens_nextPlace_38 : decode Y_Sirens_nextPlace.2.1 38 = .ok (.iload_n 3, 1) := by decide +kernel
theorem d_Sirens_nextPlace_39 : decode Y_Sirens_nextPlace.2.1 39 = .ok (.isub, 1) := by decide +kernel
theorem d_Sirens_nextPlace_40 : decode Y_Sirens_nextPlace.2.1 40 = .ok (.goto (5), 3) := by decide +kernel
theorem d_Sirens_nextPlace_43 : decode Y_Sirens_nextPlace.2.1 43 = .ok (.iload 4, 2) := by decide +kernel
theorem d_Sirens_nextPlace_45 : decode Y_Sirens_nextPlace.2.1 45 = .ok (.ireturn, 1) := by decide +kernel
def f_Sirens_nextPlace (z : zT) (D : zD) (a : Nat) (x1 : Int32) (x2 : Int32) : Option (Int32 × zD) := zref z 6 2 a (fun p1 => zald z D 0 p1 x1 (fun v2 => zlet ((8 : Int32) * v2) (fun v3 => zref z 6 3 a (fun p4 => zald z D 0 p4 x1 (fun v5 => zlet (x2 + v5) (fun v6 => (if 0 ≤ v6 then zjp (fun (s0 : Int32) (D7 : zD) => some (s0, D7)) (fun j45 => (if v6 < v3 then j45 v6 D else j45 (v6 - v3) D)) else some (v6 + v3, D))))))))
set_option maxHeartbeats 4000000 in
set_option maxRecDepth 100000 in
theorem c_Sirens_nextPlace (z : zT) (D : zD) (a : Nat) (x1 : Int32) (x2 : Int32) : zM Y_Sirens_nextPlace 1 0 0 (zqI z) (f_Sirens_nextPlace z D a x1 x2) [.ref a, .int x1, .int x2] z D := by
  refine zM_of (by decide +kernel) rfl (Nat.le_of_ble_eq_true rfl) (fun _ _ _ _ h => nomatch h.1) (fun K => ?_)
  unfold f_Sirens_nextPlace
  refine z_bipush (pc := 0) d_Sirens_nextPlace_0 kb_8 ?_
  refine z_aload_n (pc := 2) d_Sirens_nextPlace_2 rfl 0 rfl ?_
  refine z_getR (pc := 3) fl_Sirens_18 d_Sirens_nextPlace_3 (fun p1 => ?_)
  refine z_iload_n (pc := 6) d_Sirens_nextPlace_6 rfl 1 rfl ?_
  refine z_iaload (pc := 7) d_Sirens_nextPlace_7 (fun v2 => ?_)
  refine z_imul (pc := 8) d_Sirens_nextPlace_8 ?_
  refine z_leti (fun v3 => ?_)
  refine z_istore_n (pc := 9) d_Sirens_nextPlace_9 rfl (by decide) (lv' := [(3, .int v3), (0, .ref a), (1, .int x1), (2, .int x2)]) rfl ?_
  refine z_iload_n (pc := 10) d_Sirens_nextPlace_10 rfl 3 rfl ?_
  refine z_aload_n (pc := 11) d_Sirens_nextPlace_11 rfl 1 rfl ?_
  refine z_getR (pc := 12) fl_Sirens_21 d_Sirens_nextPlace_12 (fun p4 => ?_)
  refine z_iload_n (pc := 15) d_Sirens_nextPlace_15 rfl 2 rfl ?_
  refine z_iaload (pc := 16) d_Sirens_nextPlace_16 (fun v5 => ?_)
  refine z_iadd (pc := 17) d_Sirens_nextPlace_17 ?_
  refine z_leti (fun v6 => ?_)
  refine z_istore (pc := 18) d_Sirens_nextPlace_18 (by decide) (lv' := [(4, .int v6), (3, .int v3), (0, .ref a), (1, .int x1), (2, .int x2)]) rfl ?_
  refine z_iload (pc := 20) d_Sirens_nextPlace_20 0 rfl ?_
  refine z_if_ge (pc := 22) (tgt := 30) d_Sirens_nextPlace_22 (by decide) ?_ ?_
  · refine z_jp (fun j45 : Int32 → zD → Option (Int32 × zD) => ∀ (s0 : Int32) (D7 : zD), zGO K Y_Sirens_nextPlace 1 0 0 (zqI z) (j45 s0 D7) 0 0 z D7 45 [] [.int s0]) (fun s0 D7 => ?_) (fun j45 h45 => ?_)
    · exact z_iret (pc := 45) d_Sirens_nextPlace_45 rfl
    · refine z_iload (pc := 30) d_Sirens_nextPlace_30 0 rfl ?_
      refine z_iload_n (pc := 32) d_Sirens_nextPlace_32 rfl 1 rfl ?_
      refine z_icmp_lt (pc := 33) (tgt := 43) d_Sirens_nextPlace_33 (by decide) ?_ ?_
      · refine z_iload (pc := 43) d_Sirens_nextPlace_43 0 rfl ?_
        exact z_sub [] rfl (h45 v6 D)
      · refine z_iload (pc := 36) d_Sirens_nextPlace_36 0 rfl ?_
        refine z_iload_n (pc := 38) d_Sirens_nextPlace_38 rfl 1 rfl ?_
        refine z_isub (pc := 39) d_Sirens_nextPlace_39 ?_
        refine z_goto (pc := 40) (tgt := 45) d_Sirens_nextPlace_40 (by decide) ?_
        exact z_sub [] rfl (h45 (v6 - v3) D)
  · refine z_iload (pc := 25) d_Sirens_nextPlace_25 0 rfl ?_
    refine z_iload_n (pc := 27) d_Sirens_nextPlace_27 rfl 1 rfl ?_
    refine z_iadd (pc := 28) d_Sirens_nextPlace_28 ?_
    exact z_iret (pc := 29) d_Sirens_nextPlace_29 rfl
theorem d_Sirens_goOn_0 : decode Y_Sirens_goOn.2.1 0 = .ok (.iconst (0), 1) := by decide +kernel
theorem d_Sirens_goOn_1 : decode Y_Sirens_goOn.2.1 1 = .ok (.istore_n 1, 1) := by decide +kernel
theorem d_Sirens_goOn_2 : decode Y_Sirens_goOn.2.1 2 = .ok (.iload_n 1, 1) := by decide +kernel
theorem d_Sirens_goOn_3 : decode Y_Sirens_goOn.2.1 3 = .ok (.aload_n 0, 1) := by decide +kernel
theorem d_Sirens_goOn_4 : decode Y_Sirens_goOn.2.1 4 = .ok (.getfield 34, 3) := by decide +kernel
theorem d_Sirens_goOn_7 : decode Y_Sirens_goOn.2.1 7 = .ok (.if_icmp .ge (35), 3) := by decide +kernel
theorem d_Sirens_goOn_10 : decode Y_Sirens_goOn.2.1 10 = .ok (.aload_n 0, 1) := by decide +kernel
theorem d_Sirens_goOn_11 : decode Y_Sirens_goOn.2.1 11 = .ok (.getfield 30, 3) := by decide +kernel
theorem d_Sirens_goOn_14 : decode Y_Sirens_goOn.2.1 14 = .ok (.iload_n 1, 1) := by decide +kernel
theorem d_Sirens_goOn_15 : decode Y_Sirens_goOn.2.1 15 = .ok (.baload, 1) := by decide +kernel
theorem d_Sirens_goOn_16 : decode Y_Sirens_goOn.2.1 16 = .ok (.ifCond .eq (20), 3) := by decide +kernel
theorem d_Sirens_goOn_19 : decode Y_Sirens_goOn.2.1 19 = .ok (.aload_n 0, 1) := by decide +kernel
theorem d_Sirens_goOn_20 : decode Y_Sirens_goOn.2.1 20 = .ok (.getfield 27, 3) := by decide +kernel
theorem d_Sirens_goOn_23 : decode Y_Sirens_goOn.2.1 23 = .ok (.iload_n 1, 1) := by decide +kernel
theorem d_Sirens_goOn_24 : decode Y_Sirens_goOn.2.1 24 = .ok (.aload_n 0, 1) := by decide +kernel
theorem d_Sirens_goOn_25 : decode Y_Sirens_goOn.2.1 25 = .ok (.iload_n 1, 1) := by decide +kernel
theorem d_Sirens_goOn_26 : decode Y_Sirens_goOn.2.1 26 = .ok (.aload_n 0, 1) := by decide +kernel
theorem d_Sirens_goOn_27 : decode Y_Sirens_goOn.2.1 27 = .ok (.getfield 27, 3) := by decide +kernel
theorem d_Sirens_goOn_30 : decode Y_Sirens_goOn.2.1 30 = .ok (.iload_n 1, 1) := by decide +kernel
theorem d_Sirens_goOn_31 : decode Y_Sirens_goOn.2.1 31 = .ok (.iaload, 1) := by decide +kernel
theorem d_Sirens_goOn_32 : decode Y_Sirens_goOn.2.1 32 = .ok (.invokevirtual 48, 3) := by decide +kernel
theorem d_Sirens_goOn_35 : decode Y_Sirens_goOn.2.1 35 = .ok (.iastore, 1) := by decide +kernel
theorem d_Sirens_goOn_36 : decode Y_Sirens_goOn.2.1 36 = .ok (.iinc 1 (1), 3) := by decide +kernel
theorem d_Sirens_goOn_39 : decode Y_Sirens_goOn.2.1 39 = .ok (.goto (-37), 3) := by decide +kernel
theorem d_Sirens_goOn_42 : decode Y_Sirens_goOn.2.1 42 = .ok (.return_, 1) := by decide +kernel
def f_Sirens_goOn (z : zT) (D : zD) (a : Nat) : Option (zD) := zjp (zlp (fun (_ : Int32) (_ : zD) => none) (fun (j2 : Int32 → zD → Option (zD)) (x1 : Int32) (D1 : zD) => zfld z D1 6 7 a (fun v2 => (if v2 ≤ x1 then some D1 else zjp (fun (x1 : Int32) (D3 : zD) => zlet (x1 + (1 : Int32)) (fun v4 => j2 v4 D3)) (fun j36 => zref z 6 6 a (fun p5 => zald z D1 2 p5 x1 (fun v6 => (if v6 = 0 then j36 x1 D1 else zref z 6 5 a (fun p7 => zref z 6 5 a (fun p8 => zald z D1 0 p8 x1 (fun v9 => zobj z 6 a (zci (f_Sirens_nextPlace z D1 a x1 v9) (fun v10 D11 => zast z D11 0 p7 x1 v10 (fun D12 => j36 x1 D12))))))))))))) zfuel) (fun j2 => j2 (0 : Int32) D)
set_option maxHeartbeats 4000000 in
set_option maxRecDepth 100000 in
theorem c_Sirens_goOn (z : zT) (D : zD) (a : Nat) : zM Y_Sirens_goOn 2 0 0 (zqV z) (f_Sirens_goOn z D a) [.ref a] z D := by
  refine zM_of (by decide +kernel) rfl (Nat.le_of_ble_eq_true rfl) (fun _ _ _ _ h => nomatch h.1) (fun K => ?_)
  unfold f_Sirens_goOn
  refine z_jp (fun j2 : Int32 → zD → Option (zD) => ∀ (x1 : Int32) (D1 : zD), zGO K Y_Sirens_goOn 2 0 0 (zqV z) (j2 x1 D1) 0 0 z D1 2 [(0, .ref a), (1, .int x1)] []) (z_lp (fun j2 : Int32 → zD → Option (zD) => ∀ (x1 : Int32) (D1 : zD), zGO K Y_Sirens_goOn 2 0 0 (zqV z) (j2 x1 D1) 0 0 z D1 2 [(0, .ref a), (1, .int x1)] []) (fun _ _ => z_none) (fun j2 h2 x1 D1 => ?_) zfuel) (fun j2 h2 => ?_)
  · refine z_iload_n (pc := 2) d_Sirens_goOn_2 rfl 1 rfl ?_
    refine z_aload_n (pc := 3) d_Sirens_goOn_3 rfl 0 rfl ?_
    refine z_getI (pc := 4) fl_Sirens_34 d_Sirens_goOn_4 (fun v2 => ?_)
    refine z_icmp_ge (pc := 7) (tgt := 42) d_Sirens_goOn_7 (by decide) ?_ ?_
    · exact z_vret (pc := 42) d_Sirens_goOn_42 rfl
    · refine z_jp (fun j36 : Int32 → zD → Option (zD) => ∀ (x1 : Int32) (D3 : zD), zGO K Y_Sirens_goOn 2 0 0 (zqV z) (j36 x1 D3) 0 0 z D3 36 [(0, .ref a), (1, .int x1)] []) (fun x1 D3 => ?_) (fun j36 h36 => ?_)
      · refine z_iincL (pc := 36) d_Sirens_goOn_36 ki_1 1 rfl (by decide) (fun v4 => z_lvc (lv2 := [(1, .int v4), (0, .ref a)]) rfl ?_)
        refine z_goto (pc := 39) (tgt := 2) d_Sirens_goOn_39 (by decide) ?_
        exact z_sub [1, 0] rfl (h2 v4 D3)
      · refine z_aload_n (pc := 10) d_Sirens_goOn_10 rfl 0 rfl ?_
        refine z_getR (pc := 11) fl_Sirens_30 d_Sirens_goOn_11 (fun p5 => ?_)
        refine z_iload_n (pc := 14) d_Sirens_goOn_14 rfl 1 rfl ?_
        refine z_baload (pc := 15) d_Sirens_goOn_15 (fun v6 => ?_)
        refine z_if_eq (pc := 16) (tgt := 36) d_Sirens_goOn_16 (by decide) ?_ ?_
        · exact z_sub [0, 1] rfl (h36 x1 D1)
        · refine z_aload_n (pc := 19) d_Sirens_goOn_19 rfl 0 rfl ?_
          refine z_getR (pc := 20) fl_Sirens_27 d_Sirens_goOn_20 (fun p7 => ?_)
          refine z_iload_n (pc := 23) d_Sirens_goOn_23 rfl 1 rfl ?_
          refine z_aload_n (pc := 24) d_Sirens_goOn_24 rfl 0 rfl ?_
          refine z_iload_n (pc := 25) d_Sirens_goOn_25 rfl 1 rfl ?_
          refine z_aload_n (pc := 26) d_Sirens_goOn_26 rfl 0 rfl ?_
          refine z_getR (pc := 27) fl_Sirens_27 d_Sirens_goOn_27 (fun p8 => ?_)
          refine z_iload_n (pc := 30) d_Sirens_goOn_30 rfl 1 rfl ?_
          refine z_iaload (pc := 31) d_Sirens_goOn_31 (fun v9 => ?_)
          refine z_callVi (pc := 32) [.int x1, .int v9] lkV_Sirens_48 rfl (c_Sirens_nextPlace z D1 a x1 v9) (by decide) rfl rfl (Nat.le_of_ble_eq_true rfl) d_Sirens_goOn_32 (fun v10 D11 => ?_)
          refine z_iastore (pc := 35) d_Sirens_goOn_35 (fun D12 => ?_)
          exact z_sub [0, 1] rfl (h36 x1 D12)
  · refine z_iconst (pc := 0) d_Sirens_goOn_0 ki_0 ?_
    refine z_istore_n (pc := 1) d_Sirens_goOn_1 rfl (by decide) (lv' := [(1, .int (0 : Int32)), (0, .ref a)]) rfl ?_
    exact z_sub [1, 0] rfl (h2 (0 : Int32) D)
theorem d_Sirens_placeX_0 : decode Y_Sirens_placeX.2.1 0 = .ok (.iconst (2), 1) := by decide +kernel
theorem d_Sirens_placeX_1 : decode Y_Sirens_placeX.2.1 1 = .ok (.aload_n 0, 1) := by decide +kernel
theorem d_Sirens_placeX_2 : decode Y_Sirens_placeX.2.1 2 = .ok (.getfield 18, 3) := by decide +kernel
theorem d_Sirens_placeX_5 : decode Y_Sirens_placeX.2.1 5 = .ok (.iload_n 1, 1) := by decide +kernel
theorem d_Sirens_placeX_6 : decode Y_Sirens_placeX.2.1 6 = .ok (.iaload, 1) := by decide +kernel
theorem d_Sirens_placeX_7 : decode Y_Sirens_placeX.2.1 7 = .ok (.imul, 1) := by decide +kernel
theorem d_Sirens_placeX_8 : decode Y_Sirens_placeX.2.1 8 = .ok (.istore_n 2, 1) := by decide +kernel
theorem d_Sirens_placeX_9 : decode Y_Sirens_placeX.2.1 9 = .ok (.aload_n 0, 1) := by decide +kernel
theorem d_Sirens_placeX_10 : decode Y_Sirens_placeX.2.1 10 = .ok (.getfield 27, 3) := by decide +kernel
theorem d_Sirens_placeX_13 : decode Y_Sirens_placeX.2.1 13 = .ok (.iload_n 1, 1) := by decide +kernel
theorem d_Sirens_placeX_14 : decode Y_Sirens_placeX.2.1 14 = .ok (.iaload, 1) := by decide +kernel
theorem d_Sirens_placeX_15 : decode Y_Sirens_placeX.2.1 15 = .ok (.istore_n 3, 1) := by decide +kernel
theorem d_Sirens_placeX_16 : decode Y_Sirens_placeX.2.1 16 = .ok (.aload_n 0, 1) := by decide +kernel
theorem d_Sirens_placeX_17 : decode Y_Sirens_placeX.2.1 17 = .ok (.getfield 11, 3) := by decide +kernel
theorem d_Sirens_placeX_20 : decode Y_Sirens_placeX.2.1 20 = .ok (.iload_n 1, 1) := by decide +kernel
theorem d_Sirens_placeX_21 : decode Y_Sirens_placeX.2.1 21 = .ok (.iaload, 1) := by decide +kernel
theorem d_Sirens_placeX_22 : decode Y_Sirens_placeX.2.1 22 = .ok (.aload_n 0, 1) := by decide +kernel
theorem d_Sirens_placeX_23 : decode Y_Sirens_placeX.2.1 23 = .ok (.getfield 18, 3) := by decide +kernel
theorem d_Sirens_placeX_26 : decode Y_Sirens_placeX.2.1 26 = .ok (.iload_n 1, 1) := by decide +kernel
theorem d_Sirens_placeX_27 : decode Y_Sirens_placeX.2.1 27 = .ok (.iaload, 1) := by decide +kernel
theorem d_Sirens_placeX_28 : decode Y_Sirens_placeX.2.1 28 = .ok (.isub, 1) := by decide +kernel
theorem d_Sirens_placeX_29 : decode Y_Sirens_placeX.2.1 29 = .ok (.istore 4, 2) := by decide +kernel
theorem d_Sirens_placeX_31 : decode Y_Sirens_placeX.2.1 31 = .ok (.iload_n 3, 1) := by decide +kernel
theorem d_Sirens_placeX_32 : decode Y_Sirens_placeX.2.1 32 = .ok (.iload_n 2, 1) := by decide +kernel
theorem d_Sirens_placeX_33 : decode Y_Sirens_placeX.2.1 33 = .ok (.if_icmp .gt (8), 3) := by decide +kernel
theorem d_Sirens_placeX_36 : decode Y_Sirens_placeX.2.1 36 = .ok (.iload 4, 2) := by decide +kernel
theorem d_Sirens_placeX_38 : decode Y_Sirens_placeX.2.1 38 = .ok (.iload_n 3, 1) := by decide +kernel
theorem d_Sirens_placeX_39 : decode Y_Sirens_placeX.2.1 39 = .ok (.iadd, 1) := by decide +kernel
theorem d_Sirens_placeX_40 : decode Y_Sirens_placeX.2.1 40 = .ok (.ireturn, 1) := by decide +kernel
theorem d_Sirens_placeX_41 : decode Y_Sirens_placeX.2.1 41 = .ok (.iload_n 3, 1) := by decide +kernel
theorem d_Sirens_placeX_42 : decode Y_Sirens_placeX.2.1 42 = .ok (.iconst (2), 1) := by decide +kernel
theorem d_Sirens_placeX_43 : decode Y_Sirens_placeX.2.1 43 = .ok (.iload_n 2, 1) := by decide +kernel
theorem d_Sirens_placeX_44 : decode Y_Sirens_placeX.2.1 44 = .ok (.imul, 1) := by decide +kernel
theorem d_Sirens_placeX_45 : decode Y_Sirens_placeX.2.1 45 = .ok (.if_icmp .gt (8), 3) := by decide +kernel
theorem d_Sirens_placeX_48 : decode Y_Sirens_placeX.2.1 48 = .ok (.iload 4, 2) := by decide +kernel
theorem d_Sirens_placeX_50 : decode Y_Sirens_placeX.2.1 50 = .ok (.iload_n 2, 1) := by decide +kernel
theorem d_Sirens_placeX_51 : decode Y_Sirens_placeX.2.1 51 = .ok (.iadd, 1) := by decide +kernel
theorem d_Sirens_placeX_52 : decode Y_Sirens_placeX.2.1 52 = .ok (.ireturn, 1) := by decide +kernel
theorem d_Sirens_placeX_53 : decode Y_Sirens_placeX.2.1 53 = .ok (.iload_n 3, 1) := by decide +kernel
theorem d_Sirens_placeX_54 : decode Y_Sirens_placeX.2.1 54 = .ok (.iconst (3), 1) := by decide +kernel
theorem d_Sirens_placeX_55 : decode Y_Sirens_placeX.2.1 55 = .ok (.iload_n 2, 1) := by decide +kernel
theorem d_Sirens_placeX_56 : decode Y_Sirens_placeX.2.1 56 = .ok (.imul, 1) := by decide +kernel
theorem d_Sirens_placeX_57 : decode Y_Sirens_placeX.2.1 57 = .ok (.if_icmp .gt (14), 3) := by decide +kernel
theorem d_Sirens_placeX_60 : decode Y_Sirens_placeX.2.1 60 = .ok (.iload 4, 2) := by decide +kernel
theorem d_Sirens_placeX_62 : decode Y_Sirens_placeX.2.1 62 = .ok (.iconst (3), 1) := by decide +kernel
theorem d_Sirens_placeX_63 : decode Y_Sirens_placeX.2.1 63 = .ok (.iload_n 2, 1) := by decide +kernel
theorem d_Sirens_placeX_64 : decode Y_Sirens_placeX.2.1 64 = .ok (.imul, 1) := by decide +kernel
theorem d_Sirens_placeX_65 : decode Y_Sirens_placeX.2.1 65 = .ok (.iadd, 1) := by decide +kernel
theorem d_Sirens_placeX_66 : decode Y_Sirens_placeX.2.1 66 = .ok (.iload_n 3, 1) := by decide +kernel
theorem d_Sirens_placeX_67 : decode Y_Sirens_placeX.2.1 67 = .ok (.isub, 1) := by decide +kernel
theorem d_Sirens_placeX_68 : decode Y_Sirens_placeX.2.1 68 = .ok (.goto (5), 3) := by decide +kernel
theorem d_Sirens_placeX_71 : decode Y_Sirens_placeX.2.1 71 = .ok (.iload 4, 2) := by decide +kernel
theorem d_Sirens_placeX_73 : decode Y_Sirens_placeX.2.1 73 = .ok (.ireturn, 1) := by decide +kernel
def f_Sirens_placeX (z : zT) (D : zD) (a : Nat) (x1 : Int32) : Option (Int32 × zD) := zref z 6 2 a (fun p1 => zald z D 0 p1 x1 (fun v2 => zlet ((2 : Int32) * v2) (fun v3 => zref z 6 5 a (fun p4 => zald z D 0 p4 x1 (fun v5 => zref z 6 0 a (fun p6 => zald z D 0 p6 x1 (fun v7 => zref z 6 2 a (fun p8 => zald z D 0 p8 x1 (fun v9 => zlet (v7 - v9) (fun v10 => (if v3 < v5 then (if ((2 : Int32) * v3) < v5 then zjp (fun (s0 : Int32) (D11 : zD) => some (s0, D11)) (fun j73 => (if ((3 : Int32) * v3) < v5 then j73 v10 D else j73 ((v10 + ((3 : Int32) * v3)) - v5) D)) else some (v10 + v3, D)) else some (v10 + v5, D))))))))))))
set_option maxHeartbeats 4000000 in
set_option maxRecDepth 100000 in
theorem c_Sirens_placeX (z : zT) (D : zD) (a : Nat) (x1 : Int32) : zM Y_Sirens_placeX 1 0 0 (zqI z) (f_Sirens_placeX z D a x1) [.ref a, .int x1] z D := by
  refine zM_of (by decide +kernel) rfl (Nat.le_of_ble_eq_true rfl) (fun _ _ _ _ h => nomatch h.1) (fun K => ?_)
  unfold f_Sirens_placeX
  refine z_iconst (pc := 0) d_Sirens_placeX_0 ki_2 ?_
  refine z_aload_n (pc := 1) d_Sirens_placeX_1 rfl 0 rfl ?_
  refine z_getR (pc := 2) fl_Sirens_18 d_Sirens_placeX_2 (fun p1 => ?_)
  refine z_iload_n (pc := 5) d_Sirens_placeX_5 rfl 1 rfl ?_
  refine z_iaload (pc := 6) d_Sirens_placeX_6 (fun v2 => ?_)
  refine z_imul (pc := 7) d_Sirens_placeX_7 ?_
  refine z_leti (fun v3 => ?_)
  refine z_istore_n (pc := 8) d_Sirens_placeX_8 rfl (by decide) (lv' := [(2, .int v3), (0, .ref a), (1, .int x1)]) rfl ?_
  refine z_aload_n (pc := 9) d_Sirens_placeX_9 rfl 1 rfl ?_
  refine z_getR (pc := 10) fl_Sirens_27 d_Sirens_placeX_10 (fun p4 => ?_)
  refine z_iload_n (pc := 13) d_Sirens_placeX_13 rfl 2 rfl ?_
  refine z_iaload (pc := 14) d_Sirens_placeX_14 (fun v5 => ?_)
  refine z_istore_n (pc := 15) d_Sirens_placeX_15 rfl (by decide) (lv' := [(3, .int v5), (2, .int v3), (0, .ref a), (1, .int x1)]) rfl ?_
  refine z_aload_n (pc := 16) d_Sirens_placeX_16 rfl 2 rfl ?_
  refine z_getR (pc := 17) fl_Sirens_11 d_Sirens_placeX_17 (fun p6 => ?_)
  refine z_iload_n (pc := 20) d_Sirens_placeX_20 rfl 3 rfl ?_
  refine z_iaload (pc := 21) d_Sirens_placeX_21 (fun v7 => ?_)
  refine z_aload_n (pc := 22) d_Sirens_placeX_22 rfl 2 rfl ?_
  refine z_getR (pc := 23) fl_Sirens_18 d_Sirens_placeX_23 (fun p8 => ?_)
  refine z_iload_n (pc := 26) d_Sirens_placeX_26 rfl 3 rfl ?_
  refine z_iaload (pc := 27) d_Sirens_placeX_27 (fun v9 => ?_)
  refine z_isub (pc := 28) d_Sirens_placeX_28 ?_
  refine z_leti (fun v10 => ?_)
  refine z_istore (pc := 29) d_Sirens_placeX_29 (by decide) (lv' := [(4, .int v10), (3, .int v5), (2, .int v3), (0, .ref a), (1, .int x1)]) rfl ?_
  refine z_iload_n (pc := 31) d_Sirens_placeX_31 rfl 1 rfl ?_
  refine z_iload_n (pc := 32) d_Sirens_placeX_32 rfl 2 rfl ?_
  refine z_icmp_gt (pc := 33) (tgt := 41) d_Sirens_placeX_33 (by decide) ?_ ?_
  · refine z_iload_n (pc := 41) d_Sirens_placeX_41 rfl 1 rfl ?_
    refine z_iconst (pc := 42) d_Sirens_placeX_42 ki_2 ?_
    refine z_iload_n (pc := 43) d_Sirens_placeX_43 rfl 2 rfl ?_
    refine z_imul (pc := 44) d_Sirens_placeX_44 ?_
    refine z_icmp_gt (pc := 45) (tgt := 53) d_Sirens_placeX_45 (by decide) ?_ ?_
    · refine z_jp (fun j73 : Int32 → zD → Option (Int32 × zD) => ∀ (s0 : Int32) (D11 : zD), zGO K Y_Sirens_placeX 1 0 0 (zqI z) (j73 s0 D11) 0 0 z D11 73 [] [.int s0]) (fun s0 D11 => ?_) (fun j73 h73 => ?_)
      · exact z_iret (pc := 73) d_Sirens_placeX_73 rfl
      · refine z_iload_n (pc := 53) d_Sirens_placeX_53 rfl 1 rfl ?_
        refine z_iconst (pc := 54) d_Sirens_placeX_54 ki_3 ?_
        refine z_iload_n (pc := 55) d_Sirens_placeX_55 rfl 2 rfl ?_
        refine z_imul (pc := 56) d_Sirens_placeX_56 ?_
        refine z_icmp_gt (pc := 57) (tgt := 71) d_Sirens_placeX_57 (by decide) ?_ ?_
        · refine z_iload (pc := 71) d_Sirens_placeX_71 0 rfl ?_
          exact z_sub [] rfl (h73 v10 D)
        · refine z_iload (pc := 60) d_Sirens_placeX_60 0 rfl ?_
          refine z_iconst (pc := 62) d_Sirens_placeX_62 ki_3 ?_
          refine z_iload_n (pc := 63) d_Sirens_placeX_63 rfl 2 rfl ?_
          refine z_imul (pc := 64) d_Sirens_placeX_64 ?_
          refine z_iadd (pc := 65) d_Sirens_placeX_65 ?_
          refine z_iload_n (pc := 66) d_Sirens_placeX_66 rfl 1 rfl ?_
          refine z_isub (pc := 67) d_Sirens_placeX_67 ?_
          refine z_goto (pc := 68) (tgt := 73) d_Sirens_placeX_68 (by decide) ?_
          exact z_sub [] rfl (h73 ((v10 + ((3 : Int32) * v3)) - v5) D)
    · refine z_iload (pc := 48) d_Sirens_placeX_48 0 rfl ?_
      refine z_iload_n (pc := 50) d_Sirens_placeX_50 rfl 2 rfl ?_
      refine z_iadd (pc := 51) d_Sirens_placeX_51 ?_
      exact z_iret (pc := 52) d_Sirens_placeX_52 rfl
  · refine z_iload (pc := 36) d_Sirens_placeX_36 0 rfl ?_
    refine z_iload_n (pc := 38) d_Sirens_placeX_38 rfl 1 rfl ?_
    refine z_iadd (pc := 39) d_Sirens_placeX_39 ?_
    exact z_iret (pc := 40) d_Sirens_placeX_40 rfl
