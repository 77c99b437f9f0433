theorem kb_16 : (Int8.ofInt (16)).toInt32 = (16 : Int32) := by decide +kernel
theorem kb_63 : (Int8.ofInt (63)).toInt32 = (63 : Int32) := by decide +kernel
theorem kb_8 : (Int8.ofInt (8)).toInt32 = (8 : Int32) := by decide +kernel
theorem ki_0 : Int32.ofInt (0) = (0 : Int32) := by decide +kernel
theorem ki_1 : Int32.ofInt (1) = (1 : Int32) := by decide +kernel
theorem ki_2 : Int32.ofInt (2) = (2 : Int32) := by decide +kernel
theorem ki_4 : Int32.ofInt (4) = (4 : Int32) := by decide +kernel
def Y_Math_abs : zY := (⟨"java/lang/Math", "abs", "(I)I"⟩, prog_16_method_59_code, 1, some .int, [])
def Y_Math_max : zY := (⟨"java/lang/Math", "max", "(II)I"⟩, prog_16_method_65_code, 2, some .int, [])
def Y_Math_min : zY := (⟨"java/lang/Math", "min", "(II)I"⟩, prog_16_method_69_code, 2, some .int, [])
def Y_Math_floorMod : zY := (⟨"java/lang/Math", "floorMod", "(II)I"⟩, prog_16_method_50_code, 3, some .int, [])
def Y_Integer_bitCount : zY := (⟨"java/lang/Integer", "bitCount", "(I)I"⟩, prog_15_method_49_code, 1, some .int, [])
theorem w_k_Integer_265 : Cond.constant "java/lang/Integer" 265 (1431655765) ∈ zWd := zin 683 (by decide +kernel) rfl
theorem w_k_Integer_266 : Cond.constant "java/lang/Integer" 266 (858993459) ∈ zWd := zin 684 (by decide +kernel) rfl
theorem w_k_Integer_267 : Cond.constant "java/lang/Integer" 267 (252645135) ∈ zWd := zin 685 (by decide +kernel) rfl
def Y_Arrays_fill : zY := (⟨"java/util/Arrays", "fill", "([II)V"⟩, prog_21_method_103_code, 4, none, [])
theorem d_Math_abs_0 : decode Y_Math_abs.2.1 0 = .ok (.iload_n 0, 1) := by decide +kernel
theorem d_Math_abs_1 : decode Y_Math_abs.2.1 1 = .ok (.ifCond .ge (8), 3) := by decide +kernel
theorem d_Math_abs_4 : decode Y_Math_abs.2.1 4 = .ok (.iload_n 0, 1) := by decide +kernel
theorem d_Math_abs_5 : decode Y_Math_abs.2.1 5 = .ok (.ineg, 1) := by decide +kernel
theorem d_Math_abs_6 : decode Y_Math_abs.2.1 6 = .ok (.goto (4), 3) := by decide +kernel
theorem d_Math_abs_9 : decode Y_Math_abs.2.1 9 = .ok (.iload_n 0, 1) := by decide +kernel
theorem d_Math_abs_10 : decode Y_Math_abs.2.1 10 = .ok (.ireturn, 1) := by decide +kernel
def f_Math_abs (w : zW) (D : zD) (x0 : Int32) : Option (Int32 × zD) := zjp (fun (s0 : Int32) (D1 : zD) => some (s0, D1)) (fun j10 => (if 0 ≤ x0 then j10 x0 D else j10 (-x0) D))
set_option maxHeartbeats 4000000 in
set_option maxRecDepth 100000 in
theorem c_Math_abs (z : zT) (D : zD) (x0 : Int32) : zM Y_Math_abs 1 0 0 (zqI z) (f_Math_abs z.2 D x0) [.int x0] z D := by
  refine zM_of (by decide +kernel) rfl (Nat.le_of_ble_eq_true rfl) (fun _ _ _ _ h => nomatch h.1) (fun K => ?_)
  unfold f_Math_abs
  refine z_jp (fun j10 : Int32 → zD → Option (Int32 × zD) => ∀ (s0 : Int32) (D1 : zD), zGO K Y_Math_abs 1 0 0 (zqI z) (j10 s0 D1) 0 0 z D1 10 [] [.int s0]) (fun s0 D1 => ?_) (fun j10 h10 => ?_)
  · exact z_iret (pc := 10) d_Math_abs_10 rfl
  · refine z_iload_n (pc := 0) d_Math_abs_0 rfl 0 rfl ?_
    refine z_if_ge (pc := 1) (tgt := 9) d_Math_abs_1 (by decide) ?_ ?_
    · refine z_iload_n (pc := 9) d_Math_abs_9 rfl 0 rfl ?_
      exact z_sub [] rfl (h10 x0 D)
    · refine z_iload_n (pc := 4) d_Math_abs_4 rfl 0 rfl ?_
      refine z_ineg (pc := 5) d_Math_abs_5 ?_
      refine z_goto (pc := 6) (tgt := 10) d_Math_abs_6 (by decide) ?_
      exact z_sub [] rfl (h10 (-x0) D)
theorem d_Math_max_0 : decode Y_Math_max.2.1 0 = .ok (.iload_n 0, 1) := by decide +kernel
theorem d_Math_max_1 : decode Y_Math_max.2.1 1 = .ok (.iload_n 1, 1) := by decide +kernel
theorem d_Math_max_2 : decode Y_Math_max.2.1 2 = .ok (.if_icmp .lt (7), 3) := by decide +kernel
theorem d_Math_max_5 : decode Y_Math_max.2.1 5 = .ok (.iload_n 0, 1) := by decide +kernel
theorem d_Math_max_6 : decode Y_Math_max.2.1 6 = .ok (.goto (4), 3) := by decide +kernel
theorem d_Math_max_9 : decode Y_Math_max.2.1 9 = .ok (.iload_n 1, 1) := by decide +kernel
theorem d_Math_max_10 : decode Y_Math_max.2.1 10 = .ok (.ireturn, 1) := by decide +kernel
def f_Math_max (w : zW) (D : zD) (x0 : Int32) (x1 : Int32) : Option (Int32 × zD) := zjp (fun (s0 : Int32) (D1 : zD) => some (s0, D1)) (fun j10 => (if x0 < x1 then j10 x1 D else j10 x0 D))
set_option maxHeartbeats 4000000 in
set_option maxRecDepth 100000 in
theorem c_Math_max (z : zT) (D : zD) (x0 : Int32) (x1 : Int32) : zM Y_Math_max 1 0 0 (zqI z) (f_Math_max z.2 D x0 x1) [.int x0, .int x1] z D := by
  refine zM_of (by decide +kernel) rfl (Nat.le_of_ble_eq_true rfl) (fun _ _ _ _ h => nomatch h.1) (fun K => ?_)
  unfold f_Math_max
  refine z_jp (fun j10 : Int32 → zD → Option (Int32 × zD) => ∀ (s0 : Int32) (D1 : zD), zGO K Y_Math_max 1 0 0 (zqI z) (j10 s0 D1) 0 0 z D1 10 [] [.int s0]) (fun s0 D1 => ?_) (fun j10 h10 => ?_)
  · exact z_iret (pc := 10) d_Math_max_10 rfl
  · refine z_iload_n (pc := 0) d_Math_max_0 rfl 0 rfl ?_
    refine z_iload_n (pc := 1) d_Math_max_1 rfl 1 rfl ?_
    refine z_icmp_lt (pc := 2) (tgt := 9) d_Math_max_2 (by decide) ?_ ?_
    · refine z_iload_n (pc := 9) d_Math_max_9 rfl 1 rfl ?_
      exact z_sub [] rfl (h10 x1 D)
    · refine z_iload_n (pc := 5) d_Math_max_5 rfl 0 rfl ?_
      refine z_goto (pc := 6) (tgt := 10) d_Math_max_6 (by decide) ?_
      exact z_sub [] rfl (h10 x0 D)
theorem d_Math_min_0 : decode Y_Math_min.2.1 0 = .ok (.iload_n 0, 1) := by decide +kernel
theorem d_Math_min_1 : decode Y_Math_min.2.1 1 = .ok (.iload_n 1, 1) := by decide +kernel
theorem d_Math_min_2 : decode Y_Math_min.2.1 2 = .ok (.if_icmp .gt (7), 3) := by decide +kernel
theorem d_Math_min_5 : decode Y_Math_min.2.1 5 = .ok (.iload_n 0, 1) := by decide +kernel
theorem d_Math_min_6 : decode Y_Math_min.2.1 6 = .ok (.goto (4), 3) := by decide +kernel
theorem d_Math_min_9 : decode Y_Math_min.2.1 9 = .ok (.iload_n 1, 1) := by decide +kernel
theorem d_Math_min_10 : decode Y_Math_min.2.1 10 = .ok (.ireturn, 1) := by decide +kernel
def f_Math_min (w : zW) (D : zD) (x0 : Int32) (x1 : Int32) : Option (Int32 × zD) := zjp (fun (s0 : Int32) (D1 : zD) => some (s0, D1)) (fun j10 => (if x1 < x0 then j10 x1 D else j10 x0 D))
set_option maxHeartbeats 4000000 in
set_option maxRecDepth 100000 in
theorem c_Math_min (z : zT) (D : zD) (x0 : Int32) (x1 : Int32) : zM Y_Math_min 1 0 0 (zqI z) (f_Math_min z.2 D x0 x1) [.int x0, .int x1] z D := by
  refine zM_of (by decide +kernel) rfl (Nat.le_of_ble_eq_true rfl) (fun _ _ _ _ h => nomatch h.1) (fun K => ?_)
  unfold f_Math_min
  refine z_jp (fun j10 : Int32 → zD → Option (Int32 × zD) => ∀ (s0 : Int32) (D1 : zD), zGO K Y_Math_min 1 0 0 (zqI z) (j10 s0 D1) 0 0 z D1 10 [] [.int s0]) (fun s0 D1 => ?_) (fun j10 h10 => ?_)
  · exact z_iret (pc := 10) d_Math_min_10 rfl
  · refine z_iload_n (pc := 0) d_Math_min_0 rfl 0 rfl ?_
    refine z_iload_n (pc := 1) d_Math_min_1 rfl 1 rfl ?_
    refine z_icmp_gt (pc := 2) (tgt := 9) d_Math_min_2 (by decide) ?_ ?_
    · refine z_iload_n (pc := 9) d_Math_min_9 rfl 1 rfl ?_
      exact z_sub [] rfl (h10 x1 D)
    · refine z_iload_n (pc := 5) d_Math_min_5 rfl 0 rfl ?_
      refine z_goto (pc := 6) (tgt := 10) d_Math_min_6 (by decide) ?_
      exact z_sub [] rfl (h10 x0 D)
theorem d_Math_floorMod_0 : decode Y_Math_floorMod.2.1 0 = .ok (.iload_n 0, 1) := by decide +kernel
theorem d_Math_floorMod_1 : decode Y_Math_floorMod.2.1 1 = .ok (.iload_n 1, 1) := by decide +kernel
theorem d_Math_floorMod_2 : decode Y_Math_floorMod.2.1 2 = .ok (.irem, 1) := by decide +kernel
theorem d_Math_floorMod_3 : decode Y_Math_floorMod.2.1 3 = .ok (.istore_n 2, 1) := by decide +kernel
theorem d_Math_floorMod_4 : decode Y_Math_floorMod.2.1 4 = .ok (.iload_n 0, 1) := by decide +kernel
theorem d_Math_floorMod_5 : decode Y_Math_floorMod.2.1 5 = .ok (.iload_n 1, 1) := by decide +kernel
theorem d_Math_floorMod_6 : decode Y_Math_floorMod.2.1 6 = .ok (.ixor, 1) := by decide +kernel
theorem d_Math_floorMod_7 : decode Y_Math_floorMod.2.1 7 = .ok (.ifCond .ge (11), 3) := by decide +kernel
theorem d_Math_floorMod_10 : decode Y_Math_floorMod.2.1 10 = .ok (.iload_n 2, 1) := by decide +kernel
theorem d_Math_floorMod_11 : decode Y_Math_floorMod.2.1 11 = .ok (.ifCond .eq (7), 3) := by decide +kernel
theorem d_Math_floorMod_14 : decode Y_Math_floorMod.2.1 14 = .ok (.iload_n 2, 1) := by decide +kernel
theorem d_Math_floorMod_15 : decode Y_Math_floorMod.2.1 15 = .ok (.iload_n 1, 1) := by decide +kernel
theorem d_Math_floorMod_16 : decode Y_Math_floorMod.2.1 16 = .ok (.iadd, 1) := by decide +kernel
theorem d_Math_floorMod_17 : decode Y_Math_floorMod.2.1 17 = .ok (.ireturn, 1) := by decide +kernel
theorem d_Math_floorMod_18 : decode Y_Math_floorMod.2.1 18 = .ok (.iload_n 2, 1) := by decide +kernel
theorem d_Math_floorMod_19 : decode Y_Math_floorMod.2.1 19 = .ok (.ireturn, 1) := by decide +kernel
def f_Math_floorMod (w : zW) (D : zD) (x0 : Int32) (x1 : Int32) : Option (Int32 × zD) := zjp (fun (x2 : Int32) (D1 : zD) => some (x2, D1)) (fun j18 => zchk (¬ x1 = 0) (zlet (zirem x0 x1) (fun v2 => (if 0 ≤ (x0 ^^^ x1) then j18 v2 D else (if v2 = 0 then j18 v2 D else some (v2 + x1, D))))))
set_option maxHeartbeats 4000000 in
set_option maxRecDepth 100000 in
theorem c_Math_floorMod (z : zT) (D : zD) (x0 : Int32) (x1 : Int32) : zM Y_Math_floorMod 1 0 0 (zqI z) (f_Math_floorMod z.2 D x0 x1) [.int x0, .int x1] z D := by
  refine zM_of (by decide +kernel) rfl (Nat.le_of_ble_eq_true rfl) (fun _ _ _ _ h => nomatch h.1) (fun K => ?_)
  unfold f_Math_floorMod
  refine z_jp (fun j18 : Int32 → zD → Option (Int32 × zD) => ∀ (x2 : Int32) (D1 : zD), zGO K Y_Math_floorMod 1 0 0 (zqI z) (j18 x2 D1) 0 0 z D1 18 [(2, .int x2)] []) (fun x2 D1 => ?_) (fun j18 h18 => ?_)
  · refine z_iload_n (pc := 18) d_Math_floorMod_18 rfl 0 rfl ?_
    exact z_iret (pc := 19) d_Math_floorMod_19 rfl
  · refine z_iload_n (pc := 0) d_Math_floorMod_0 rfl 0 rfl ?_
    refine z_iload_n (pc := 1) d_Math_floorMod_1 rfl 1 rfl ?_
    refine z_irem (pc := 2) d_Math_floorMod_2 ?_
    refine z_leti (fun v2 => ?_)
    refine z_istore_n (pc := 3) d_Math_floorMod_3 rfl (by decide) (lv' := [(2, .int v2), (0, .int x0), (1, .int x1)]) rfl ?_
    refine z_iload_n (pc := 4) d_Math_floorMod_4 rfl 1 rfl ?_
    refine z_iload_n (pc := 5) d_Math_floorMod_5 rfl 2 rfl ?_
    refine z_ixor (pc := 6) d_Math_floorMod_6 ?_
    refine z_if_ge (pc := 7) (tgt := 18) d_Math_floorMod_7 (by decide) ?_ ?_
    · exact z_sub [0] rfl (h18 v2 D)
    · refine z_iload_n (pc := 10) d_Math_floorMod_10 rfl 0 rfl ?_
      refine z_if_eq (pc := 11) (tgt := 18) d_Math_floorMod_11 (by decide) ?_ ?_
      · exact z_sub [0] rfl (h18 v2 D)
      · refine z_iload_n (pc := 14) d_Math_floorMod_14 rfl 0 rfl ?_
        refine z_iload_n (pc := 15) d_Math_floorMod_15 rfl 2 rfl ?_
        refine z_iadd (pc := 16) d_Math_floorMod_16 ?_
        exact z_iret (pc := 17) d_Math_floorMod_17 rfl
theorem d_Integer_bitCount_0 : decode Y_Integer_bitCount.2.1 0 = .ok (.iload_n 0, 1) := by decide +kernel
theorem d_Integer_bitCount_1 : decode Y_Integer_bitCount.2.1 1 = .ok (.iload_n 0, 1) := by decide +kernel
theorem d_Integer_bitCount_2 : decode Y_Integer_bitCount.2.1 2 = .ok (.iconst (1), 1) := by decide +kernel
theorem d_Integer_bitCount_3 : decode Y_Integer_bitCount.2.1 3 = .ok (.iushr, 1) := by decide +kernel
theorem d_Integer_bitCount_4 : decode Y_Integer_bitCount.2.1 4 = .ok (.ldc_w 265, 3) := by decide +kernel
theorem d_Integer_bitCount_7 : decode Y_Integer_bitCount.2.1 7 = .ok (.iand, 1) := by decide +kernel
theorem d_Integer_bitCount_8 : decode Y_Integer_bitCount.2.1 8 = .ok (.isub, 1) := by decide +kernel
theorem d_Integer_bitCount_9 : decode Y_Integer_bitCount.2.1 9 = .ok (.istore_n 0, 1) := by decide +kernel
theorem d_Integer_bitCount_10 : decode Y_Integer_bitCount.2.1 10 = .ok (.iload_n 0, 1) := by decide +kernel
theorem d_Integer_bitCount_11 : decode Y_Integer_bitCount.2.1 11 = .ok (.ldc_w 266, 3) := by decide +kernel
theorem d_Integer_bitCount_14 : decode Y_Integer_bitCount.2.1 14 = .ok (.iand, 1) := by decide +kernel
theorem d_Integer_bitCount_15 : decode Y_Integer_bitCount.2.1 15 = .ok (.iload_n 0, 1) := by decide +kernel
theorem d_Integer_bitCount_16 : decode Y_Integer_bitCount.2.1 16 = .ok (.iconst (2), 1) := by decide +kernel
theorem d_Integer_bitCount_17 : decode Y_Integer_bitCount.2.1 17 = .ok (.iushr, 1) := by decide +kernel
theorem d_Integer_bitCount_18 : decode Y_Integer_bitCount.2.1 18 = .ok (.ldc_w 266, 3) := by decide +kernel
theorem d_Integer_bitCount_21 : decode Y_Integer_bitCount.2.1 21 = .ok (.iand, 1) := by decide +kernel
theorem d_Integer_bitCount_22 : decode Y_Integer_bitCount.2.1 22 = .ok (.iadd, 1) := by decide +kernel
theorem d_Integer_bitCount_23 : decode Y_Integer_bitCount.2.1 23 = .ok (.istore_n 0, 1) := by decide +kernel
theorem d_Integer_bitCount_24 : decode Y_Integer_bitCount.2.1 24 = .ok (.iload_n 0, 1) := by decide +kernel
theorem d_Integer_bitCount_25 : decode Y_Integer_bitCount.2.1 25 = .ok (.iload_n 0, 1) := by decide +kernel
theorem d_Integer_bitCount_26 : decode Y_Integer_bitCount.2.1 26 = .ok (.iconst (4), 1) := by decide +kernel
theorem d_Integer_bitCount_27 : decode Y_Integer_bitCount.2.1 27 = .ok (.iushr, 1) := by decide +kernel
theorem d_Integer_bitCount_28 : decode Y_Integer_bitCount.2.1 28 = .ok (.iadd, 1) := by decide +kernel
theorem d_Integer_bitCount_29 : decode Y_Integer_bitCount.2.1 29 = .ok (.ldc_w 267, 3) := by decide +kernel
theorem d_Integer_bitCount_32 : decode Y_Integer_bitCount.2.1 32 = .ok (.iand, 1) := by decide +kernel
theorem d_Integer_bitCount_33 : decode Y_Integer_bitCount.2.1 33 = .ok (.istore_n 0, 1) := by decide +kernel
theorem d_Integer_bitCount_34 : decode Y_Integer_bitCount.2.1 34 = .ok (.iload_n 0, 1) := by decide +kernel
theorem d_Integer_bitCount_35 : decode Y_Integer_bitCount.2.1 35 = .ok (.iload_n 0, 1) := by decide +kernel
theorem d_Integer_bitCount_36 : decode Y_Integer_bitCount.2.1 36 = .ok (.bipush (8), 2) := by decide +kernel
theorem d_Integer_bitCount_38 : decode Y_Integer_bitCount.2.1 38 = .ok (.iushr, 1) := by decide +kernel
theorem d_Integer_bitCount_39 : decode Y_Integer_bitCount.2.1 39 = .ok (.iadd, 1) := by decide +kernel
theorem d_Integer_bitCount_40 : decode Y_Integer_bitCount.2.1 40 = .ok (.istore_n 0, 1) := by decide +kernel
theorem d_Integer_bitCount_41 : decode Y_Integer_bitCount.2.1 41 = .ok (.iload_n 0, 1) := by decide +kernel
theorem d_Integer_bitCount_42 : decode Y_Integer_bitCount.2.1 42 = .ok (.iload_n 0, 1) := by decide +kernel
theorem d_Integer_bitCount_43 : decode Y_Integer_bitCount.2.1 43 = .ok (.bipush (16), 2) := by decide +kernel
theorem d_Integer_bitCount_45 : decode Y_Integer_bitCount.2.1 45 = .ok (.iushr, 1) := by decide +kernel
theorem d_Integer_bitCount_46 : decode Y_Integer_bitCount.2.1 46 = .ok (.iadd, 1) := by decide +kernel
theorem d_Integer_bitCount_47 : decode Y_Integer_bitCount.2.1 47 = .ok (.istore_n 0, 1) := by decide +kernel
theorem d_Integer_bitCount_48 : decode Y_Integer_bitCount.2.1 48 = .ok (.iload_n 0, 1) := by decide +kernel
theorem d_Integer_bitCount_49 : decode Y_Integer_bitCount.2.1 49 = .ok (.bipush (63), 2) := by decide +kernel
theorem d_Integer_bitCount_51 : decode Y_Integer_bitCount.2.1 51 = .ok (.iand, 1) := by decide +kernel
theorem d_Integer_bitCount_52 : decode Y_Integer_bitCount.2.1 52 = .ok (.ireturn, 1) := by decide +kernel
def f_Integer_bitCount (w : zW) (D : zD) (x0 : Int32) : Option (Int32 × zD) := zlet (x0 - (((x0.toUInt32 >>> ((1 : Int32).toUInt32 &&& Int32.toUInt32 31)).toInt32) &&& (1431655765 : Int32))) (fun v1 => zlet ((v1 &&& (858993459 : Int32)) + (((v1.toUInt32 >>> ((2 : Int32).toUInt32 &&& Int32.toUInt32 31)).toInt32) &&& (858993459 : Int32))) (fun v2 => zlet ((v2 + ((v2.toUInt32 >>> ((4 : Int32).toUInt32 &&& Int32.toUInt32 31)).toInt32)) &&& (252645135 : Int32)) (fun v3 => zlet (v3 + ((v3.toUInt32 >>> ((8 : Int32).toUInt32 &&& Int32.toUInt32 31)).toInt32)) (fun v4 => zlet (v4 + ((v4.toUInt32 >>> ((16 : Int32).toUInt32 &&& Int32.toUInt32 31)).toInt32)) (fun v5 => some (v5 &&& (63 : Int32), D))))))
set_option maxHeartbeats 4000000 in
set_option maxRecDepth 100000 in
theorem c_Integer_bitCount (z : zT) (D : zD) (x0 : Int32) : zM Y_Integer_bitCount 1 0 0 (zqI z) (f_Integer_bitCount z.2 D x0) [.int x0] z D := by
  refine zM_of (plainFor_of_name (by decide +kernel)) rfl (Nat.le_of_ble_eq_true rfl) (fun _ _ _ _ h => nomatch h.1) (fun K => ?_)
  unfold f_Integer_bitCount
  refine z_iload_n (pc := 0) d_Integer_bitCount_0 rfl 0 rfl ?_
  refine z_iload_n (pc := 1) d_Integer_bitCount_1 rfl 0 rfl ?_
  refine z_iconst (pc := 2) d_Integer_bitCount_2 ki_1 ?_
  refine z_iushr (pc := 3) d_Integer_bitCount_3 ?_
  refine z_ldcw (pc := 4) w_k_Integer_265 d_Integer_bitCount_4 ?_
  refine z_iand (pc := 7) d_Integer_bitCount_7 ?_
  refine z_isub (pc := 8) d_Integer_bitCount_8 ?_
  refine z_leti (fun v1 => ?_)
  refine z_istore_n (pc := 9) d_Integer_bitCount_9 rfl (by decide) (lv' := [(0, .int v1)]) rfl ?_
  refine z_iload_n (pc := 10) d_Integer_bitCount_10 rfl 0 rfl ?_
  refine z_ldcw (pc := 11) w_k_Integer_266 d_Integer_bitCount_11 ?_
  refine z_iand (pc := 14) d_Integer_bitCount_14 ?_
  refine z_iload_n (pc := 15) d_Integer_bitCount_15 rfl 0 rfl ?_
  refine z_iconst (pc := 16) d_Integer_bitCount_16 ki_2 ?_
  refine z_iushr (pc := 17) d_Integer_bitCount_17 ?_
  refine z_ldcw (pc := 18) w_k_Integer_266 d_Integer_bitCount_18 ?_
  refine z_iand (pc := 21) d_Integer_bitCount_21 ?_
  refine z_iadd (pc := 22) d_Integer_bitCount_22 ?_
  refine z_leti (fun v2 => ?_)
  refine z_istore_n (pc := 23) d_Integer_bitCount_23 rfl (by decide) (lv' := [(0, .int v2)]) rfl ?_
  refine z_iload_n (pc := 24) d_Integer_bitCount_24 rfl 0 rfl ?_
  refine z_iload_n (pc := 25) d_Integer_bitCount_25 rfl 0 rfl ?_
  refine z_iconst (pc := 26) d_Integer_bitCount_26 ki_4 ?_
  refine z_iushr (pc := 27) d_Integer_bitCount_27 ?_
  refine z_iadd (pc := 28) d_Integer_bitCount_28 ?_
  refine z_ldcw (pc := 29) w_k_Integer_267 d_Integer_bitCount_29 ?_
  refine z_iand (pc := 32) d_Integer_bitCount_32 ?_
  refine z_leti (fun v3 => ?_)
  refine z_istore_n (pc := 33) d_Integer_bitCount_33 rfl (by decide) (lv' := [(0, .int v3)]) rfl ?_
  refine z_iload_n (pc := 34) d_Integer_bitCount_34 rfl 0 rfl ?_
  refine z_iload_n (pc := 35) d_Integer_bitCount_35 rfl 0 rfl ?_
  refine z_bipush (pc := 36) d_Integer_bitCount_36 kb_8 ?_
  refine z_iushr (pc := 38) d_Integer_bitCount_38 ?_
  refine z_iadd (pc := 39) d_Integer_bitCount_39 ?_
  refine z_leti (fun v4 => ?_)
  refine z_istore_n (pc := 40) d_Integer_bitCount_40 rfl (by decide) (lv' := [(0, .int v4)]) rfl ?_
  refine z_iload_n (pc := 41) d_Integer_bitCount_41 rfl 0 rfl ?_
  refine z_iload_n (pc := 42) d_Integer_bitCount_42 rfl 0 rfl ?_
  refine z_bipush (pc := 43) d_Integer_bitCount_43 kb_16 ?_
  refine z_iushr (pc := 45) d_Integer_bitCount_45 ?_
  refine z_iadd (pc := 46) d_Integer_bitCount_46 ?_
  refine z_leti (fun v5 => ?_)
  refine z_istore_n (pc := 47) d_Integer_bitCount_47 rfl (by decide) (lv' := [(0, .int v5)]) rfl ?_
  refine z_iload_n (pc := 48) d_Integer_bitCount_48 rfl 0 rfl ?_
  refine z_bipush (pc := 49) d_Integer_bitCount_49 kb_63 ?_
  refine z_iand (pc := 51) d_Integer_bitCount_51 ?_
  exact z_iret (pc := 52) d_Integer_bitCount_52 rfl
theorem d_Arrays_fill_0 : decode Y_Arrays_fill.2.1 0 = .ok (.iconst (0), 1) := by decide +kernel
theorem d_Arrays_fill_1 : decode Y_Arrays_fill.2.1 1 = .ok (.istore_n 2, 1) := by decide +kernel
theorem d_Arrays_fill_2 : decode Y_Arrays_fill.2.1 2 = .ok (.aload_n 0, 1) := by decide +kernel
theorem d_Arrays_fill_3 : decode Y_Arrays_fill.2.1 3 = .ok (.arraylength, 1) := by decide +kernel
theorem d_Arrays_fill_4 : decode Y_Arrays_fill.2.1 4 = .ok (.istore_n 3, 1) := by decide +kernel
theorem d_Arrays_fill_5 : decode Y_Arrays_fill.2.1 5 = .ok (.iload_n 2, 1) := by decide +kernel
theorem d_Arrays_fill_6 : decode Y_Arrays_fill.2.1 6 = .ok (.iload_n 3, 1) := by decide +kernel
theorem d_Arrays_fill_7 : decode Y_Arrays_fill.2.1 7 = .ok (.if_icmp .ge (13), 3) := by decide +kernel
theorem d_Arrays_fill_10 : decode Y_Arrays_fill.2.1 10 = .ok (.aload_n 0, 1) := by decide +kernel
theorem d_Arrays_fill_11 : decode Y_Arrays_fill.2.1 11 = .ok (.iload_n 2, 1) := by decide +kernel
theorem d_Arrays_fill_12 : decode Y_Arrays_fill.2.1 12 = .ok (.iload_n 1, 1) := by decide +kernel
theorem d_Arrays_fill_13 : decode Y_Arrays_fill.2.1 13 = .ok (.iastore, 1) := by decide +kernel
theorem d_Arrays_fill_14 : decode Y_Arrays_fill.2.1 14 = .ok (.iinc 2 (1), 3) := by decide +kernel
theorem d_Arrays_fill_17 : decode Y_Arrays_fill.2.1 17 = .ok (.goto (-12), 3) := by decide +kernel
theorem d_Arrays_fill_20 : decode Y_Arrays_fill.2.1 20 = .ok (.return_, 1) := by decide +kernel
def f_Arrays_fill (w : zW) (D : zD) (r0 : Nat) (x1 : Int32) : Option (zD) := zjp (zlp (fun (_ : Int32) (_ : Int32) (_ : zD) => none) (fun (j5 : Int32 → Int32 → zD → Option (zD)) (x2 : Int32) (x3 : Int32) (D1 : zD) => (if x3 ≤ x2 then some D1 else zast w D1 0 r0 x2 x1 (fun D2 => zlet (x2 + (1 : Int32)) (fun v3 => j5 v3 x3 D2)))) zfuel) (fun j5 => zlen w 0 r0 (fun v4 => j5 (0 : Int32) v4 D))
set_option maxHeartbeats 4000000 in
set_option maxRecDepth 100000 in
theorem c_Arrays_fill (z : zT) (D : zD) (r0 : Nat) (x1 : Int32) : zM Y_Arrays_fill 1 0 0 (zqV z) (f_Arrays_fill z.2 D r0 x1) [.ref r0, .int x1] z D := by
  refine zM_of (plainFor_of_name (by decide +kernel)) rfl (Nat.le_of_ble_eq_true rfl) (fun _ _ _ _ h => nomatch h.1) (fun K => ?_)
  unfold f_Arrays_fill
  refine z_jp (fun j5 : Int32 → Int32 → zD → Option (zD) => ∀ (x2 : Int32) (x3 : Int32) (D1 : zD), zGO K Y_Arrays_fill 1 0 0 (zqV z) (j5 x2 x3 D1) 0 0 z D1 5 [(0, .ref r0), (1, .int x1), (2, .int x2), (3, .int x3)] []) (z_lp (fun j5 : Int32 → Int32 → zD → Option (zD) => ∀ (x2 : Int32) (x3 : Int32) (D1 : zD), zGO K Y_Arrays_fill 1 0 0 (zqV z) (j5 x2 x3 D1) 0 0 z D1 5 [(0, .ref r0), (1, .int x1), (2, .int x2), (3, .int x3)] []) (fun _ _ _ => z_none) (fun j5 h5 x2 x3 D1 => ?_) zfuel) (fun j5 h5 => ?_)
  · refine z_iload_n (pc := 5) d_Arrays_fill_5 rfl 2 rfl ?_
    refine z_iload_n (pc := 6) d_Arrays_fill_6 rfl 3 rfl ?_
    refine z_icmp_ge (pc := 7) (tgt := 20) d_Arrays_fill_7 (by decide) ?_ ?_
    · exact z_vret (pc := 20) d_Arrays_fill_20 rfl
    · refine z_aload_n (pc := 10) d_Arrays_fill_10 rfl 0 rfl ?_
      refine z_iload_n (pc := 11) d_Arrays_fill_11 rfl 2 rfl ?_
      refine z_iload_n (pc := 12) d_Arrays_fill_12 rfl 1 rfl ?_
      refine z_iastore (pc := 13) d_Arrays_fill_13 (fun D2 => ?_)
      refine z_iincL (pc := 14) d_Arrays_fill_14 ki_1 2 rfl (by decide) (fun v3 => z_lvc (lv2 := [(2, .int v3), (0, .ref r0), (1, .int x1), (3, .int x3)]) rfl ?_)
      refine z_goto (pc := 17) (tgt := 5) d_Arrays_fill_17 (by decide) ?_
      exact z_sub [1, 2, 0, 3] rfl (h5 v3 x3 D2)
  · refine z_iconst (pc := 0) d_Arrays_fill_0 ki_0 ?_
    refine z_istore_n (pc := 1) d_Arrays_fill_1 rfl (by decide) (lv' := [(2, .int (0 : Int32)), (0, .ref r0), (1, .int x1)]) rfl ?_
    refine z_aload_n (pc := 2) d_Arrays_fill_2 rfl 1 rfl ?_
    refine z_alen (pc := 3) d_Arrays_fill_3 (fun v4 => ?_)
    refine z_istore_n (pc := 4) d_Arrays_fill_4 rfl (by decide) (lv' := [(3, .int v4), (2, .int (0 : Int32)), (0, .ref r0), (1, .int x1)]) rfl ?_
    exact z_sub [2, 3, 1, 0] rfl (h5 (0 : Int32) v4 D)
