def Y_Sirens_init : zY := (⟨"SirenFair$Sirens", "<init>", "()V"⟩, prog_7_method_1_code, 1, none, [])
theorem w_ml_Sirens_3 : Cond.methodLink "SirenFair$Sirens" 3 Lib.objectInit ∈ zWd := zin 81 (by decide +kernel) rfl
theorem w_fl_Sirens_11 : Cond.fieldLink "SirenFair$Sirens" 11 "SirenFair$Sirens" "x" "[I" ∈ zWd := zin 82 (by decide +kernel) rfl
theorem in_Sirens : ∀ w ∈ u_ws "SirenFair$Sirens" T_Sirens 8, w ∈ zWd := by decide +kernel
theorem zc_Sirens : zcls 6 "SirenFair$Sirens" T_Sirens 8 ty_Sirens := ⟨rfl, in_Sirens, nm_Sirens, tyok_Sirens⟩
theorem fl_Sirens_11 : zfl "SirenFair$Sirens" 11 6 0 (.array (.int)) true := ⟨_, _, _, _, zc_Sirens, by decide, w_fl_Sirens_11, rfl, rfl, rfl⟩
theorem w_fl_Sirens_15 : Cond.fieldLink "SirenFair$Sirens" 15 "SirenFair$Sirens" "y" "[I" ∈ zWd := zin 84 (by decide +kernel) rfl
theorem fl_Sirens_15 : zfl "SirenFair$Sirens" 15 6 1 (.array (.int)) true := ⟨_, _, _, _, zc_Sirens, by decide, w_fl_Sirens_15, rfl, rfl, rfl⟩
theorem w_fl_Sirens_18 : Cond.fieldLink "SirenFair$Sirens" 18 "SirenFair$Sirens" "r" "[I" ∈ zWd := zin 86 (by decide +kernel) rfl
theorem fl_Sirens_18 : zfl "SirenFair$Sirens" 18 6 2 (.array (.int)) true := ⟨_, _, _, _, zc_Sirens, by decide, w_fl_Sirens_18, rfl, rfl, rfl⟩
theorem w_fl_Sirens_21 : Cond.fieldLink "SirenFair$Sirens" 21 "SirenFair$Sirens" "speed" "[I" ∈ zWd := zin 88 (by decide +kernel) rfl
theorem fl_Sirens_21 : zfl "SirenFair$Sirens" 21 6 3 (.array (.int)) true := ⟨_, _, _, _, zc_Sirens, by decide, w_fl_Sirens_21, rfl, rfl, rfl⟩
theorem w_fl_Sirens_24 : Cond.fieldLink "SirenFair$Sirens" 24 "SirenFair$Sirens" "period" "[I" ∈ zWd := zin 90 (by decide +kernel) rfl
theorem fl_Sirens_24 : zfl "SirenFair$Sirens" 24 6 4 (.array (.int)) true := ⟨_, _, _, _, zc_Sirens, by decide, w_fl_Sirens_24, rfl, rfl, rfl⟩
theorem w_fl_Sirens_27 : Cond.fieldLink "SirenFair$Sirens" 27 "SirenFair$Sirens" "place" "[I" ∈ zWd := zin 93 (by decide +kernel) rfl
theorem fl_Sirens_27 : zfl "SirenFair$Sirens" 27 6 5 (.array (.int)) true := ⟨_, _, _, _, zc_Sirens, by decide, w_fl_Sirens_27, rfl, rfl, rfl⟩
theorem w_fl_Sirens_30 : Cond.fieldLink "SirenFair$Sirens" 30 "SirenFair$Sirens" "on" "[Z" ∈ zWd := zin 95 (by decide +kernel) rfl
theorem fl_Sirens_30 : zfl "SirenFair$Sirens" 30 6 6 (.array (.boolean)) true := ⟨_, _, _, _, zc_Sirens, by decide, w_fl_Sirens_30, rfl, rfl, rfl⟩
def Y_Sirens_copyFrom : zY := (⟨"SirenFair$Sirens", "copyFrom", "(LSirenFair$Sirens;)V"⟩, prog_7_method_2_code, 2, none, [])
theorem w_fl_Sirens_34 : Cond.fieldLink "SirenFair$Sirens" 34 "SirenFair$Sirens" "count" "I" ∈ zWd := zin 97 (by decide +kernel) rfl
theorem fl_Sirens_34 : zfl "SirenFair$Sirens" 34 6 7 (.int) false := ⟨_, _, _, _, zc_Sirens, by decide, w_fl_Sirens_34, rfl, rfl, rfl⟩
theorem w_ml_Sirens_38 : Cond.methodLink "SirenFair$Sirens" 38 arraycopyName ∈ zWd := zin 448 (by decide +kernel) rfl
def Y_Sirens_has : zY := (⟨"SirenFair$Sirens", "has", "(I)Z"⟩, prog_7_method_3_code, 2, some .boolean, [])
def Y_Sirens_add : zY := (⟨"SirenFair$Sirens", "add", "(IIIII)I"⟩, prog_7_method_4_code, 6, some .int, [])
def Y_Sirens_turnAllOff : zY := (⟨"SirenFair$Sirens", "turnAllOff", "()V"⟩, prog_7_method_6_code, 2, none, [])
def Y_Sirens_howManyOn : zY := (⟨"SirenFair$Sirens", "howManyOn", "()I"⟩, prog_7_method_7_code, 3, some .int, [])
def Y_Sirens_nextPlace : zY := (⟨"SirenFair$Sirens", "nextPlace", "(II)I"⟩, prog_7_method_9_code, 5, some .int, [])
def Y_Sirens_isDue : zY := (⟨"SirenFair$Sirens", "isDue", "(II)Z"⟩, prog_7_method_12_code, 3, some .boolean, [])
def Y_Sirens_placeX : zY := (⟨"SirenFair$Sirens", "placeX", "(I)I"⟩, prog_7_method_13_code, 5, some .int, [])
def Y_Sirens_placeY : zY := (⟨"SirenFair$Sirens", "placeY", "(I)I"⟩, prog_7_method_14_code, 5, some .int, [])
def Y_Sirens_turnTo : zY := (⟨"SirenFair$Sirens", "turnTo", "(IZ)Z"⟩, prog_7_method_5_code, 3, some .boolean, [])
theorem w_c_Sirens_has : Cond.code Y_Sirens_has.1 Y_Sirens_has.2.1 Y_Sirens_has.2.2.1 Y_Sirens_has.2.2.2.1 ∈ zWd := zin 579 (by decide +kernel) rfl
theorem w_ini_Sirens : Cond.initialized "SirenFair$Sirens" ∈ zWd := zin 19 (by decide +kernel) rfl
theorem lk_Sirens_has : zlk Y_Sirens_has 1 := ⟨w_c_Sirens_has, w_ini_Sirens, by decide +kernel, by decide +kernel, by decide⟩
theorem w_ml_Sirens_44 : Cond.methodLink "SirenFair$Sirens" 44 Y_Sirens_has.1 ∈ zWd := zin 576 (by decide +kernel) rfl
theorem w_im_Sirens_has : Cond.instanceMethod Y_Sirens_has.1 ∈ zWd := zin 577 (by decide +kernel) rfl
theorem w_sel_Sirens_has : Cond.selects "SirenFair$Sirens" Y_Sirens_has.1 Y_Sirens_has.1 ∈ zWd := zin 578 (by decide +kernel) rfl
theorem lkV_Sirens_44 : zlkV "SirenFair$Sirens" 44 Y_Sirens_has 1 := ⟨lk_Sirens_has, w_ml_Sirens_44, w_im_Sirens_has, w_sel_Sirens_has⟩
def Y_Sirens_goOn : zY := (⟨"SirenFair$Sirens", "goOn", "()V"⟩, prog_7_method_8_code, 2, none, [])
theorem w_c_Sirens_nextPlace : Cond.code Y_Sirens_nextPlace.1 Y_Sirens_nextPlace.2.1 Y_Sirens_nextPlace.2.2.1 Y_Sirens_nextPlace.2.2.2.1 ∈ zWd := zin 595 (by decide +kernel) rfl
theorem lk_Sirens_nextPlace : zlk Y_Sirens_nextPlace 2 := ⟨w_c_Sirens_nextPlace, w_ini_Sirens, by decide +kernel, by decide +kernel, by decide⟩
theorem w_ml_Sirens_48 : Cond.methodLink "SirenFair$Sirens" 48 Y_Sirens_nextPlace.1 ∈ zWd := zin 592 (by decide +kernel) rfl
theorem w_im_Sirens_nextPlace : Cond.instanceMethod Y_Sirens_nextPlace.1 ∈ zWd := zin 594 (by decide +kernel) rfl
theorem w_sel_Sirens_nextPlace : Cond.selects "SirenFair$Sirens" Y_Sirens_nextPlace.1 Y_Sirens_nextPlace.1 ∈ zWd := zin 9 (by decide +kernel) rfl
theorem lkV_Sirens_48 : zlkV "SirenFair$Sirens" 48 Y_Sirens_nextPlace 2 := ⟨lk_Sirens_nextPlace, w_ml_Sirens_48, w_im_Sirens_nextPlace, w_sel_Sirens_nextPlace⟩
def Y_Sirens_placeTickByTick : zY := (⟨"SirenFair$Sirens", "placeTickByTick", "(II)I"⟩, prog_7_method_10_code, 5, some .int, [])
def Y_Sirens_placeAtOnce : zY := (⟨"SirenFair$Sirens", "placeAtOnce", "(II)I"⟩, prog_7_method_11_code, 4, some .int, [])
theorem w_c_Math_floorMod : Cond.code Y_Math_floorMod.1 Y_Math_floorMod.2.1 Y_Math_floorMod.2.2.1 Y_Math_floorMod.2.2.2.1 ∈ zWd := zin 847 (by decide +kernel) rfl
theorem lk_Math_floorMod : zlk Y_Math_floorMod 2 := ⟨w_c_Math_floorMod, w_ini_Math, by decide +kernel, by decide +kernel, by decide⟩
theorem w_ml_Sirens_52 : Cond.methodLink "SirenFair$Sirens" 52 Y_Math_floorMod.1 ∈ zWd := zin 845 (by decide +kernel) rfl
theorem w_st_Math_floorMod : Cond.static Y_Math_floorMod.1 ∈ zWd := zin 846 (by decide +kernel) rfl
theorem lkS_Sirens_52 : zlkS "SirenFair$Sirens" 52 Y_Math_floorMod 2 := ⟨lk_Math_floorMod, w_ml_Sirens_52, w_st_Math_floorMod⟩
def Y_Sirens_nearestTo : zY := (⟨"SirenFair$Sirens", "nearestTo", "(II)I"⟩, prog_7_method_15_code, 7, some .int, [])
theorem w_c_Sirens_placeX : Cond.code Y_Sirens_placeX.1 Y_Sirens_placeX.2.1 Y_Sirens_placeX.2.2.1 Y_Sirens_placeX.2.2.2.1 ∈ zWd := zin 620 (by decide +kernel) rfl
theorem lk_Sirens_placeX : zlk Y_Sirens_placeX 1 := ⟨w_c_Sirens_placeX, w_ini_Sirens, by decide +kernel, by decide +kernel, by decide⟩
theorem w_ml_Sirens_57 : Cond.methodLink "SirenFair$Sirens" 57 Y_Sirens_placeX.1 ∈ zWd := zin 739 (by decide +kernel) rfl
theorem w_im_Sirens_placeX : Cond.instanceMethod Y_Sirens_placeX.1 ∈ zWd := zin 618 (by decide +kernel) rfl
theorem w_sel_Sirens_placeX : Cond.selects "SirenFair$Sirens" Y_Sirens_placeX.1 Y_Sirens_placeX.1 ∈ zWd := zin 619 (by decide +kernel) rfl
theorem lkV_Sirens_57 : zlkV "SirenFair$Sirens" 57 Y_Sirens_placeX 1 := ⟨lk_Sirens_placeX, w_ml_Sirens_57, w_im_Sirens_placeX, w_sel_Sirens_placeX⟩
theorem w_ml_Sirens_61 : Cond.methodLink "SirenFair$Sirens" 61 Y_Math_abs.1 ∈ zWd := zin 740 (by decide +kernel) rfl
theorem lkS_Sirens_61 : zlkS "SirenFair$Sirens" 61 Y_Math_abs 1 := ⟨lk_Math_abs, w_ml_Sirens_61, w_st_Math_abs⟩
theorem w_c_Sirens_placeY : Cond.code Y_Sirens_placeY.1 Y_Sirens_placeY.2.1 Y_Sirens_placeY.2.2.1 Y_Sirens_placeY.2.2.2.1 ∈ zWd := zin 624 (by decide +kernel) rfl
theorem lk_Sirens_placeY : zlk Y_Sirens_placeY 1 := ⟨w_c_Sirens_placeY, w_ini_Sirens, by decide +kernel, by decide +kernel, by decide⟩
theorem w_ml_Sirens_64 : Cond.methodLink "SirenFair$Sirens" 64 Y_Sirens_placeY.1 ∈ zWd := zin 741 (by decide +kernel) rfl
theorem w_im_Sirens_placeY : Cond.instanceMethod Y_Sirens_placeY.1 ∈ zWd := zin 622 (by decide +kernel) rfl
theorem w_sel_Sirens_placeY : Cond.selects "SirenFair$Sirens" Y_Sirens_placeY.1 Y_Sirens_placeY.1 ∈ zWd := zin 623 (by decide +kernel) rfl
theorem lkV_Sirens_64 : zlkV "SirenFair$Sirens" 64 Y_Sirens_placeY 1 := ⟨lk_Sirens_placeY, w_ml_Sirens_64, w_im_Sirens_placeY, w_sel_Sirens_placeY⟩
theorem d_Sirens_init_0 : decode Y_Sirens_init.2.1 0 = .ok (.aload_n 0, 1) := by decide +kernel
theorem d_Sirens_init_1 : decode Y_Sirens_init.2.1 1 = .ok (.invokespecial 3, 3) := by decide +kernel
theorem d_Sirens_init_4 : decode Y_Sirens_init.2.1 4 = .ok (.aload_n 0, 1) := by decide +kernel
theorem d_Sirens_init_5 : decode Y_Sirens_init.2.1 5 = .ok (.iconst (4), 1) := by decide +kernel
theorem d_Sirens_init_6 : decode Y_Sirens_init.2.1 6 = .ok (.newarray .int, 2) := by decide +kernel
theorem d_Sirens_init_8 : decode Y_Sirens_init.2.1 8 = .ok (.putfield 11, 3) := by decide +kernel
theorem d_Sirens_init_11 : decode Y_Sirens_init.2.1 11 = .ok (.aload_n 0, 1) := by decide +kernel
theorem d_Sirens_init_12 : decode Y_Sirens_init.2.1 12 = .ok (.iconst (4), 1) := by decide +kernel
theorem d_Sirens_init_13 : decode Y_Sirens_init.2.1 13 = .ok (.newarray .int, 2) := by decide +kernel
theorem d_Sirens_init_15 : decode Y_Sirens_init.2.1 15 = .ok (.putfield 15, 3) := by decide +kernel
theorem d_Sirens_init_18 : decode Y_Sirens_init.2.1 18 = .ok (.aload_n 0, 1) := by decide +kernel
theorem d_Sirens_init_19 : decode Y_Sirens_init.2.1 19 = .ok (.iconst (4), 1) := by decide +kernel
theorem d_Sirens_init_20 : decode Y_Sirens_init.2.1 20 = .ok (.newarray .int, 2) := by decide +kernel
theorem d_Sirens_init_22 : decode Y_Sirens_init.2.1 22 = .ok (.putfield 18, 3) := by decide +kernel
theorem d_Sirens_init_25 : decode Y_Sirens_init.2.1 25 = .ok (.aload_n 0, 1) := by decide +kernel
theorem d_Sirens_init_26 : decode Y_Sirens_init.2.1 26 = .ok (.iconst (4), 1) := by decide +kernel
theorem d_Sirens_init_27 : decode Y_Sirens_init.2.1 27 = .ok (.newarray .int, 2) := by decide +kernel
theorem d_Sirens_init_29 : decode Y_Sirens_init.2.1 29 = .ok (.putfield 21, 3) := by decide +kernel
theorem d_Sirens_init_32 : decode Y_Sirens_init.2.1 32 = .ok (.aload_n 0, 1) := by decide +kernel
theorem d_Sirens_init_33 : decode Y_Sirens_init.2.1 33 = .ok (.iconst (4), 1) := by decide +kernel
theorem d_Sirens_init_34 : decode Y_Sirens_init.2.1 34 = .ok (.newarray .int, 2) := by decide +kernel
theorem d_Sirens_init_36 : decode Y_Sirens_init.2.1 36 = .ok (.putfield 24, 3) := by decide +kernel
theorem d_Sirens_init_39 : decode Y_Sirens_init.2.1 39 = .ok (.aload_n 0, 1) := by decide +kernel
theorem d_Sirens_init_40 : decode Y_Sirens_init.2.1 40 = .ok (.iconst (4), 1) := by decide +kernel
theorem d_Sirens_init_41 : decode Y_Sirens_init.2.1 41 = .ok (.newarray .int, 2) := by decide +kernel
theorem d_Sirens_init_43 : decode Y_Sirens_init.2.1 43 = .ok (.putfield 27, 3) := by decide +kernel
theorem d_Sirens_init_46 : decode Y_Sirens_init.2.1 46 = .ok (.aload_n 0, 1) := by decide +kernel
theorem d_Sirens_init_47 : decode Y_Sirens_init.2.1 47 = .ok (.iconst (4), 1) := by decide +kernel
theorem d_Sirens_init_48 : decode Y_Sirens_init.2.1 48 = .ok (.newarray .boolean, 2) := by decide +kernel
theorem d_Sirens_init_50 : decode Y_Sirens_init.2.1 50 = .ok (.putfield 30, 3) := by decide +kernel
theorem d_Sirens_init_53 : decode Y_Sirens_init.2.1 53 = .ok (.return_, 1) := by decide +kernel
def f_Sirens_init (z : zT) (D : zD) (a : Nat) : Option (zT × zD) := znew z D (.inl (0, 4)) (fun q1 z2 D3 => zputR z2 6 0 a q1 (fun z4 => znew z4 D3 (.inl (0, 4)) (fun q5 z6 D7 => zputR z6 6 1 a q5 (fun z8 => znew z8 D7 (.inl (0, 4)) (fun q9 z10 D11 => zputR z10 6 2 a q9 (fun z12 => znew z12 D11 (.inl (0, 4)) (fun q13 z14 D15 => zputR z14 6 3 a q13 (fun z16 => znew z16 D15 (.inl (0, 4)) (fun q17 z18 D19 => zputR z18 6 4 a q17 (fun z20 => znew z20 D19 (.inl (0, 4)) (fun q21 z22 D23 => zputR z22 6 5 a q21 (fun z24 => znew z24 D23 (.inl (2, 4)) (fun q25 z26 D27 => zputR z26 6 6 a q25 (fun z28 => some (z28, D27)))))))))))))))
set_option maxHeartbeats 4000000 in
set_option maxRecDepth 100000 in
theorem c_Sirens_init (z : zT) (D : zD) (a : Nat) : zM Y_Sirens_init 1 7 28 zqC (f_Sirens_init z D a) [.ref a] z D := by
  refine zM_of (plainFor_of_name (by decide +kernel)) rfl (Nat.le_of_ble_eq_true rfl) (fun _ _ _ _ h => nomatch h.1) (fun K => ?_)
  unfold f_Sirens_init
  refine z_aload_n (pc := 0) d_Sirens_init_0 rfl 0 rfl ?_
  refine z_objInit (pc := 1) w_ml_Sirens_3 w_oi1 w_oi2 (by decide) (Nat.le_of_ble_eq_true rfl) d_Sirens_init_1 ?_
  refine z_aload_n (pc := 4) d_Sirens_init_4 rfl 0 rfl ?_
  refine z_iconst (pc := 5) d_Sirens_init_5 ki_4 ?_
  refine z_newI (pc := 6) (kc2 := 6) (ks2 := 24) w_ac_int (by decide) (by decide) (Nat.le_of_ble_eq_true rfl) (by decide) (by decide) d_Sirens_init_6 (fun q1 z2 D3 => ?_)
  refine z_putR (pc := 8) fl_Sirens_11 rfl (fun _ _ _ h => by cases h; rfl) (Or.inr ⟨_, rfl⟩) d_Sirens_init_8 (fun z4 => ?_)
  refine z_aload_n (pc := 11) d_Sirens_init_11 rfl 0 rfl ?_
  refine z_iconst (pc := 12) d_Sirens_init_12 ki_4 ?_
  refine z_newI (pc := 13) (kc2 := 5) (ks2 := 20) w_ac_int (by decide) (by decide) (Nat.le_of_ble_eq_true rfl) (by decide) (by decide) d_Sirens_init_13 (fun q5 z6 D7 => ?_)
  refine z_putR (pc := 15) fl_Sirens_15 rfl (fun _ _ _ h => by cases h; rfl) (Or.inr ⟨_, rfl⟩) d_Sirens_init_15 (fun z8 => ?_)
  refine z_aload_n (pc := 18) d_Sirens_init_18 rfl 0 rfl ?_
  refine z_iconst (pc := 19) d_Sirens_init_19 ki_4 ?_
  refine z_newI (pc := 20) (kc2 := 4) (ks2 := 16) w_ac_int (by decide) (by decide) (Nat.le_of_ble_eq_true rfl) (by decide) (by decide) d_Sirens_init_20 (fun q9 z10 D11 => ?_)
  refine z_putR (pc := 22) fl_Sirens_18 rfl (fun _ _ _ h => by cases h; rfl) (Or.inr ⟨_, rfl⟩) d_Sirens_init_22 (fun z12 => ?_)
  refine z_aload_n (pc := 25) d_Sirens_init_25 rfl 0 rfl ?_
  refine z_iconst (pc := 26) d_Sirens_init_26 ki_4 ?_
  refine z_newI (pc := 27) (kc2 := 3) (ks2 := 12) w_ac_int (by decide) (by decide) (Nat.le_of_ble_eq_true rfl) (by decide) (by decide) d_Sirens_init_27 (fun q13 z14 D15 => ?_)
  refine z_putR (pc := 29) fl_Sirens_21 rfl (fun _ _ _ h => by cases h; rfl) (Or.inr ⟨_, rfl⟩) d_Sirens_init_29 (fun z16 => ?_)
  refine z_aload_n (pc := 32) d_Sirens_init_32 rfl 0 rfl ?_
  refine z_iconst (pc := 33) d_Sirens_init_33 ki_4 ?_
  refine z_newI (pc := 34) (kc2 := 2) (ks2 := 8) w_ac_int (by decide) (by decide) (Nat.le_of_ble_eq_true rfl) (by decide) (by decide) d_Sirens_init_34 (fun q17 z18 D19 => ?_)
  refine z_putR (pc := 36) fl_Sirens_24 rfl (fun _ _ _ h => by cases h; rfl) (Or.inr ⟨_, rfl⟩) d_Sirens_init_36 (fun z20 => ?_)
  refine z_aload_n (pc := 39) d_Sirens_init_39 rfl 0 rfl ?_
  refine z_iconst (pc := 40) d_Sirens_init_40 ki_4 ?_
  refine z_newI (pc := 41) (kc2 := 1) (ks2 := 4) w_ac_int (by decide) (by decide) (Nat.le_of_ble_eq_true rfl) (by decide) (by decide) d_Sirens_init_41 (fun q21 z22 D23 => ?_)
  refine z_putR (pc := 43) fl_Sirens_27 rfl (fun _ _ _ h => by cases h; rfl) (Or.inr ⟨_, rfl⟩) d_Sirens_init_43 (fun z24 => ?_)
  refine z_aload_n (pc := 46) d_Sirens_init_46 rfl 0 rfl ?_
  refine z_iconst (pc := 47) d_Sirens_init_47 ki_4 ?_
  refine z_newB (pc := 48) (kc2 := 0) (ks2 := 0) w_ac_boolean (by decide) (by decide) (Nat.le_of_ble_eq_true rfl) (by decide) (by decide) d_Sirens_init_48 (fun q25 z26 D27 => ?_)
  refine z_putR (pc := 50) fl_Sirens_30 rfl (fun _ _ _ h => by cases h; rfl) (Or.inr ⟨_, rfl⟩) d_Sirens_init_50 (fun z28 => ?_)
  exact z_cret (pc := 53) d_Sirens_init_53 rfl
theorem d_Sirens_copyFrom_0 : decode Y_Sirens_copyFrom.2.1 0 = .ok (.aload_n 0, 1) := by decide +kernel
theorem d_Sirens_copyFrom_1 : decode Y_Sirens_copyFrom.2.1 1 = .ok (.aload_n 1, 1) := by decide +kernel
theorem d_Sirens_copyFrom_2 : decode Y_Sirens_copyFrom.2.1 2 = .ok (.getfield 34, 3) := by decide +kernel
theorem d_Sirens_copyFrom_5 : decode Y_Sirens_copyFrom.2.1 5 = .ok (.putfield 34, 3) := by decide +kernel
theorem d_Sirens_copyFrom_8 : decode Y_Sirens_copyFrom.2.1 8 = .ok (.aload_n 1, 1) := by decide +kernel
theorem d_Sirens_copyFrom_9 : decode Y_Sirens_copyFrom.2.1 9 = .ok (.getfield 11, 3) := by decide +kernel
theorem d_Sirens_copyFrom_12 : decode Y_Sirens_copyFrom.2.1 12 = .ok (.iconst (0), 1) := by decide +kernel
theorem d_Sirens_copyFrom_13 : decode Y_Sirens_copyFrom.2.1 13 = .ok (.aload_n 0, 1) := by decide +kernel
theorem d_Sirens_copyFrom_14 : decode Y_Sirens_copyFrom.2.1 14 = .ok (.getfield 11, 3) := by decide +kernel
theorem d_Sirens_copyFrom_17 : decode Y_Sirens_copyFrom.2.1 17 = .ok (.iconst (0), 1) := by decide +kernel
theorem d_Sirens_copyFrom_18 : decode Y_Sirens_copyFrom.2.1 18 = .ok (.iconst (4), 1) := by decide +kernel
theorem d_Sirens_copyFrom_19 : decode Y_Sirens_copyFrom.2.1 19 = .ok (.invokestatic 38, 3) := by decide +kernel
theorem d_Sirens_copyFrom_22 : decode Y_Sirens_copyFrom.2.1 22 = .ok (.aload_n 1, 1) := by decide +kernel
theorem d_Sirens_copyFrom_23 : decode Y_Sirens_copyFrom.2.1 23 = .ok (.getfield 15, 3) := by decide +kernel
theorem d_Sirens_copyFrom_26 : decode Y_Sirens_copyFrom.2.1 26 = .ok (.iconst (0), 1) := by decide +kernel
theorem d_Sirens_copyFrom_27 : decode Y_Sirens_copyFrom.2.1 27 = .ok (.aload_n 0, 1) := by decide +kernel
theorem d_Sirens_copyFrom_28 : decode Y_Sirens_copyFrom.2.1 28 = .ok (.getfield 15, 3) := by decide +kernel
theorem d_Sirens_copyFrom_31 : decode Y_Sirens_copyFrom.2.1 31 = .ok (.iconst (0), 1) := by decide +kernel
theorem d_Sirens_copyFrom_32 : decode Y_Sirens_copyFrom.2.1 32 = .ok (.iconst (4), 1) := by decide +kernel
theorem d_Sirens_copyFrom_33 : decode Y_Sirens_copyFrom.2.1 33 = .ok (.invokestatic 38, 3) := by decide +kernel
theorem d_Sirens_copyFrom_36 : decode Y_Sirens_copyFrom.2.1 36 = .ok (.aload_n 1, 1) := by decide +kernel
theorem d_Sirens_copyFrom_37 : decode Y_Sirens_copyFrom.2.1 37 = .ok (.getfield 18, 3) := by decide +kernel
theorem d_Sirens_copyFrom_40 : decode Y_Sirens_copyFrom.2.1 40 = .ok (.iconst (0), 1) := by decide +kernel
theorem d_Sirens_copyFrom_41 : decode Y_Sirens_copyFrom.2.1 41 = .ok (.aload_n 0, 1) := by decide +kernel
theorem d_Sirens_copyFrom_42 : decode Y_Sirens_copyFrom.2.1 42 = .ok (.getfield 18, 3) := by decide +kernel
theorem d_Sirens_copyFrom_45 : decode Y_Sirens_copyFrom.2.1 45 = .ok (.iconst (0), 1) := by decide +kernel
theorem d_Sirens_copyFrom_46 : decode Y_Sirens_copyFrom.2.1 46 = .ok (.iconst (4), 1) := by decide +kernel
theorem d_Sirens_copyFrom_47 : decode Y_Sirens_copyFrom.2.1 47 = .ok (.invokestatic 38, 3) := by decide +kernel
theorem d_Sirens_copyFrom_50 : decode Y_Sirens_copyFrom.2.1 50 = .ok (.aload_n 1, 1) := by decide +kernel
theorem d_Sirens_copyFrom_51 : decode Y_Sirens_copyFrom.2.1 51 = .ok (.getfield 21, 3) := by decide +kernel
theorem d_Sirens_copyFrom_54 : decode Y_Sirens_copyFrom.2.1 54 = .ok (.iconst (0), 1) := by decide +kernel
theorem d_Sirens_copyFrom_55 : decode Y_Sirens_copyFrom.2.1 55 = .ok (.aload_n 0, 1) := by decide +kernel
theorem d_Sirens_copyFrom_56 : decode Y_Sirens_copyFrom.2.1 56 = .ok (.getfield 21, 3) := by decide +kernel
theorem d_Sirens_copyFrom_59 : decode Y_Sirens_copyFrom.2.1 59 = .ok (.iconst (0), 1) := by decide +kernel
theorem d_Sirens_copyFrom_60 : decode Y_Sirens_copyFrom.2.1 60 = .ok (.iconst (4), 1) := by decide +kernel
theorem d_Sirens_copyFrom_61 : decode Y_Sirens_copyFrom.2.1 61 = .ok (.invokestatic 38, 3) := by decide +kernel
theorem d_Sirens_copyFrom_64 : decode Y_Sirens_copyFrom.2.1 64 = .ok (.aload_n 1, 1) := by decide +kernel
theorem d_Sirens_copyFrom_65 : decode Y_Sirens_copyFrom.2.1 65 = .ok (.getfield 24, 3) := by decide +kernel
theorem d_Sirens_copyFrom_68 : decode Y_Sirens_copyFrom.2.1 68 = .ok (.iconst (0), 1) := by decide +kernel
theorem d_Sirens_copyFrom_69 : decode Y_Sirens_copyFrom.2.1 69 = .ok (.aload_n 0, 1) := by decide +kernel
theorem d_Sirens_copyFrom_70 : decode Y_Sirens_copyFrom.2.1 70 = .ok (.getfield 24, 3) := by decide +kernel
theorem d_Sirens_copyFrom_73 : decode Y_Sirens_copyFrom.2.1 73 = .ok (.iconst (0), 1) := by decide +kernel
theorem d_Sirens_copyFrom_74 : decode Y_Sirens_copyFrom.2.1 74 = .ok (.iconst (4), 1) := by decide +kernel
theorem d_Sirens_copyFrom_75 : decode Y_Sirens_copyFrom.2.1 75 = .ok (.invokestatic 38, 3) := by decide +kernel
theorem d_Sirens_copyFrom_78 : decode Y_Sirens_copyFrom.2.1 78 = .ok (.aload_n 1, 1) := by decide +kernel
theorem d_Sirens_copyFrom_79 : decode Y_Sirens_copyFrom.2.1 79 = .ok (.getfield 27, 3) := by decide +kernel
theorem d_Sirens_copyFrom_82 : decode Y_Sirens_copyFrom.2.1 82 = .ok (.iconst (0), 1) := by decide +kernel
theorem d_Sirens_copyFrom_83 : decode Y_Sirens_copyFrom.2.1 83 = .ok (.aload_n 0, 1) := by decide +kernel
theorem d_Sirens_copyFrom_84 : decode Y_Sirens_copyFrom.2.1 84 = .ok (.getfield 27, 3) := by decide +kernel
theorem d_Sirens_copyFrom_87 : decode Y_Sirens_copyFrom.2.1 87 = .ok (.iconst (0), 1) := by decide +kernel
theorem d_Sirens_copyFrom_88 : decode Y_Sirens_copyFrom.2.1 88 = .ok (.iconst (4), 1) := by decide +kernel
theorem d_Sirens_copyFrom_89 : decode Y_Sirens_copyFrom.2.1 89 = .ok (.invokestatic 38, 3) := by decide +kernel
theorem d_Sirens_copyFrom_92 : decode Y_Sirens_copyFrom.2.1 92 = .ok (.aload_n 1, 1) := by decide +kernel
theorem d_Sirens_copyFrom_93 : decode Y_Sirens_copyFrom.2.1 93 = .ok (.getfield 30, 3) := by decide +kernel
theorem d_Sirens_copyFrom_96 : decode Y_Sirens_copyFrom.2.1 96 = .ok (.iconst (0), 1) := by decide +kernel
theorem d_Sirens_copyFrom_97 : decode Y_Sirens_copyFrom.2.1 97 = .ok (.aload_n 0, 1) := by decide +kernel
theorem d_Sirens_copyFrom_98 : decode Y_Sirens_copyFrom.2.1 98 = .ok (.getfield 30, 3) := by decide +kernel
theorem d_Sirens_copyFrom_101 : decode Y_Sirens_copyFrom.2.1 101 = .ok (.iconst (0), 1) := by decide +kernel
theorem d_Sirens_copyFrom_102 : decode Y_Sirens_copyFrom.2.1 102 = .ok (.iconst (4), 1) := by decide +kernel
theorem d_Sirens_copyFrom_103 : decode Y_Sirens_copyFrom.2.1 103 = .ok (.invokestatic 38, 3) := by decide +kernel
theorem d_Sirens_copyFrom_106 : decode Y_Sirens_copyFrom.2.1 106 = .ok (.return_, 1) := by decide +kernel
def f_Sirens_copyFrom (w : zW) (D : zD) (a : Nat) (r1 : Nat) : Option (zD) := zfld w D 6 7 r1 (fun v1 => zput w D 6 7 a v1 (fun D2 => zref w 6 0 r1 (fun p3 => zref w 6 0 a (fun p4 => zcpy w D2 0 p3 (0 : Int32) p4 (0 : Int32) (4 : Int32) (fun D5 => zref w 6 1 r1 (fun p6 => zref w 6 1 a (fun p7 => zcpy w D5 0 p6 (0 : Int32) p7 (0 : Int32) (4 : Int32) (fun D8 => zref w 6 2 r1 (fun p9 => zref w 6 2 a (fun p10 => zcpy w D8 0 p9 (0 : Int32) p10 (0 : Int32) (4 : Int32) (fun D11 => zref w 6 3 r1 (fun p12 => zref w 6 3 a (fun p13 => zcpy w D11 0 p12 (0 : Int32) p13 (0 : Int32) (4 : Int32) (fun D14 => zref w 6 4 r1 (fun p15 => zref w 6 4 a (fun p16 => zcpy w D14 0 p15 (0 : Int32) p16 (0 : Int32) (4 : Int32) (fun D17 => zref w 6 5 r1 (fun p18 => zref w 6 5 a (fun p19 => zcpy w D17 0 p18 (0 : Int32) p19 (0 : Int32) (4 : Int32) (fun D20 => zref w 6 6 r1 (fun p21 => zref w 6 6 a (fun p22 => zcpy w D20 2 p21 (0 : Int32) p22 (0 : Int32) (4 : Int32) (fun D23 => some D23)))))))))))))))))))))))
set_option maxHeartbeats 4000000 in
set_option maxRecDepth 100000 in
theorem c_Sirens_copyFrom (z : zT) (D : zD) (a : Nat) (r1 : Nat) : zM Y_Sirens_copyFrom 1 0 0 (zqV z) (f_Sirens_copyFrom z.2 D a r1) [.ref a, .ref r1] z D := by
  refine zM_of (plainFor_of_name (by decide +kernel)) rfl (Nat.le_of_ble_eq_true rfl) (fun _ _ _ _ h => nomatch h.1) (fun K => ?_)
  unfold f_Sirens_copyFrom
  refine z_aload_n (pc := 0) d_Sirens_copyFrom_0 rfl 0 rfl ?_
  refine z_aload_n (pc := 1) d_Sirens_copyFrom_1 rfl 1 rfl ?_
  refine z_getI (pc := 2) fl_Sirens_34 d_Sirens_copyFrom_2 (fun v1 => ?_)
  refine z_putI (pc := 5) fl_Sirens_34 d_Sirens_copyFrom_5 (fun D2 => ?_)
  refine z_aload_n (pc := 8) d_Sirens_copyFrom_8 rfl 1 rfl ?_
  refine z_getR (pc := 9) fl_Sirens_11 d_Sirens_copyFrom_9 (fun p3 => ?_)
  refine z_iconst (pc := 12) d_Sirens_copyFrom_12 ki_0 ?_
  refine z_aload_n (pc := 13) d_Sirens_copyFrom_13 rfl 0 rfl ?_
  refine z_getR (pc := 14) fl_Sirens_11 d_Sirens_copyFrom_14 (fun p4 => ?_)
  refine z_iconst (pc := 17) d_Sirens_copyFrom_17 ki_0 ?_
  refine z_iconst (pc := 18) d_Sirens_copyFrom_18 ki_4 ?_
  refine z_copyi (pc := 19) w_ml_Sirens_38 w_acn w_acs w_ini_System 0 (by decide) (by decide) (Nat.le_of_ble_eq_true rfl) d_Sirens_copyFrom_19 (fun D5 => ?_)
  refine z_aload_n (pc := 22) d_Sirens_copyFrom_22 rfl 1 rfl ?_
  refine z_getR (pc := 23) fl_Sirens_15 d_Sirens_copyFrom_23 (fun p6 => ?_)
  refine z_iconst (pc := 26) d_Sirens_copyFrom_26 ki_0 ?_
  refine z_aload_n (pc := 27) d_Sirens_copyFrom_27 rfl 0 rfl ?_
  refine z_getR (pc := 28) fl_Sirens_15 d_Sirens_copyFrom_28 (fun p7 => ?_)
  refine z_iconst (pc := 31) d_Sirens_copyFrom_31 ki_0 ?_
  refine z_iconst (pc := 32) d_Sirens_copyFrom_32 ki_4 ?_
  refine z_copyi (pc := 33) w_ml_Sirens_38 w_acn w_acs w_ini_System 0 (by decide) (by decide) (Nat.le_of_ble_eq_true rfl) d_Sirens_copyFrom_33 (fun D8 => ?_)
  refine z_aload_n (pc := 36) d_Sirens_copyFrom_36 rfl 1 rfl ?_
  refine z_getR (pc := 37) fl_Sirens_18 d_Sirens_copyFrom_37 (fun p9 => ?_)
  refine z_iconst (pc := 40) d_Sirens_copyFrom_40 ki_0 ?_
  refine z_aload_n (pc := 41) d_Sirens_copyFrom_41 rfl 0 rfl ?_
  refine z_getR (pc := 42) fl_Sirens_18 d_Sirens_copyFrom_42 (fun p10 => ?_)
  refine z_iconst (pc := 45) d_Sirens_copyFrom_45 ki_0 ?_
  refine z_iconst (pc := 46) d_Sirens_copyFrom_46 ki_4 ?_
  refine z_copyi (pc := 47) w_ml_Sirens_38 w_acn w_acs w_ini_System 0 (by decide) (by decide) (Nat.le_of_ble_eq_true rfl) d_Sirens_copyFrom_47 (fun D11 => ?_)
  refine z_aload_n (pc := 50) d_Sirens_copyFrom_50 rfl 1 rfl ?_
  refine z_getR (pc := 51) fl_Sirens_21 d_Sirens_copyFrom_51 (fun p12 => ?_)
  refine z_iconst (pc := 54) d_Sirens_copyFrom_54 ki_0 ?_
  refine z_aload_n (pc := 55) d_Sirens_copyFrom_55 rfl 0 rfl ?_
  refine z_getR (pc := 56) fl_Sirens_21 d_Sirens_copyFrom_56 (fun p13 => ?_)
  refine z_iconst (pc := 59) d_Sirens_copyFrom_59 ki_0 ?_
  refine z_iconst (pc := 60) d_Sirens_copyFrom_60 ki_4 ?_
  refine z_copyi (pc := 61) w_ml_Sirens_38 w_acn w_acs w_ini_System 0 (by decide) (by decide) (Nat.le_of_ble_eq_true rfl) d_Sirens_copyFrom_61 (fun D14 => ?_)
  refine z_aload_n (pc := 64) d_Sirens_copyFrom_64 rfl 1 rfl ?_
  refine z_getR (pc := 65) fl_Sirens_24 d_Sirens_copyFrom_65 (fun p15 => ?_)
  refine z_iconst (pc := 68) d_Sirens_copyFrom_68 ki_0 ?_
  refine z_aload_n (pc := 69) d_Sirens_copyFrom_69 rfl 0 rfl ?_
  refine z_getR (pc := 70) fl_Sirens_24 d_Sirens_copyFrom_70 (fun p16 => ?_)
  refine z_iconst (pc := 73) d_Sirens_copyFrom_73 ki_0 ?_
  refine z_iconst (pc := 74) d_Sirens_copyFrom_74 ki_4 ?_
  refine z_copyi (pc := 75) w_ml_Sirens_38 w_acn w_acs w_ini_System 0 (by decide) (by decide) (Nat.le_of_ble_eq_true rfl) d_Sirens_copyFrom_75 (fun D17 => ?_)
  refine z_aload_n (pc := 78) d_Sirens_copyFrom_78 rfl 1 rfl ?_
  refine z_getR (pc := 79) fl_Sirens_27 d_Sirens_copyFrom_79 (fun p18 => ?_)
  refine z_iconst (pc := 82) d_Sirens_copyFrom_82 ki_0 ?_
  refine z_aload_n (pc := 83) d_Sirens_copyFrom_83 rfl 0 rfl ?_
  refine z_getR (pc := 84) fl_Sirens_27 d_Sirens_copyFrom_84 (fun p19 => ?_)
  refine z_iconst (pc := 87) d_Sirens_copyFrom_87 ki_0 ?_
  refine z_iconst (pc := 88) d_Sirens_copyFrom_88 ki_4 ?_
  refine z_copyi (pc := 89) w_ml_Sirens_38 w_acn w_acs w_ini_System 0 (by decide) (by decide) (Nat.le_of_ble_eq_true rfl) d_Sirens_copyFrom_89 (fun D20 => ?_)
  refine z_aload_n (pc := 92) d_Sirens_copyFrom_92 rfl 1 rfl ?_
  refine z_getR (pc := 93) fl_Sirens_30 d_Sirens_copyFrom_93 (fun p21 => ?_)
  refine z_iconst (pc := 96) d_Sirens_copyFrom_96 ki_0 ?_
  refine z_aload_n (pc := 97) d_Sirens_copyFrom_97 rfl 0 rfl ?_
  refine z_getR (pc := 98) fl_Sirens_30 d_Sirens_copyFrom_98 (fun p22 => ?_)
  refine z_iconst (pc := 101) d_Sirens_copyFrom_101 ki_0 ?_
  refine z_iconst (pc := 102) d_Sirens_copyFrom_102 ki_4 ?_
  refine z_copyi (pc := 103) w_ml_Sirens_38 w_acn w_acs w_ini_System 2 (by decide) (by decide) (Nat.le_of_ble_eq_true rfl) d_Sirens_copyFrom_103 (fun D23 => ?_)
  exact z_vret (pc := 106) d_Sirens_copyFrom_106 rfl
theorem d_Sirens_has_0 : decode Y_Sirens_has.2.1 0 = .ok (.iload_n 1, 1) := by decide +kernel
theorem d_Sirens_has_1 : decode Y_Sirens_has.2.1 1 = .ok (.ifCond .lt (15), 3) := by decide +kernel
theorem d_Sirens_has_4 : decode Y_Sirens_has.2.1 4 = .ok (.iload_n 1, 1) := by decide +kernel
theorem d_Sirens_has_5 : decode Y_Sirens_has.2.1 5 = .ok (.aload_n 0, 1) := by decide +kernel
theorem d_Sirens_has_6 : decode Y_Sirens_has.2.1 6 = .ok (.getfield 34, 3) := by decide +kernel
theorem d_Sirens_has_9 : decode Y_Sirens_has.2.1 9 = .ok (.if_icmp .ge (7), 3) := by decide +kernel
theorem d_Sirens_has_12 : decode Y_Sirens_has.2.1 12 = .ok (.iconst (1), 1) := by decide +kernel
theorem d_Sirens_has_13 : decode Y_Sirens_has.2.1 13 = .ok (.goto (4), 3) := by decide +kernel
theorem d_Sirens_has_16 : decode Y_Sirens_has.2.1 16 = .ok (.iconst (0), 1) := by decide +kernel
theorem d_Sirens_has_17 : decode Y_Sirens_has.2.1 17 = .ok (.ireturn, 1) := by decide +kernel
def f_Sirens_has (w : zW) (D : zD) (a : Nat) (x1 : Int32) : Option (Int32 × zD) := zjp (fun (s0 : Int32) (D1 : zD) => zchk (s0 = 0 ∨ s0 = 1) (some (s0, D1))) (fun j17 => zjp (fun (D2 : zD) => j17 (0 : Int32) D2) (fun j16 => (if x1 < 0 then j16 D else zfld w D 6 7 a (fun v3 => (if v3 ≤ x1 then j16 D else j17 (1 : Int32) D)))))
set_option maxHeartbeats 4000000 in
set_option maxRecDepth 100000 in
theorem c_Sirens_has (z : zT) (D : zD) (a : Nat) (x1 : Int32) : zM Y_Sirens_has 1 0 0 (zqI z) (f_Sirens_has z.2 D a x1) [.ref a, .int x1] z D := by
  refine zM_of (plainFor_of_name (by decide +kernel)) rfl (Nat.le_of_ble_eq_true rfl) (fun _ _ _ _ h => nomatch h.1) (fun K => ?_)
  unfold f_Sirens_has
  refine z_jp (fun j17 : Int32 → zD → Option (Int32 × zD) => ∀ (s0 : Int32) (D1 : zD), zGO K Y_Sirens_has 1 0 0 (zqI z) (j17 s0 D1) 0 0 z D1 17 [] [.int s0]) (fun s0 D1 => ?_) (fun j17 h17 => ?_)
  · exact z_zret (pc := 17) d_Sirens_has_17 rfl
  · refine z_jp (fun j16 : zD → Option (Int32 × zD) => ∀ (D2 : zD), zGO K Y_Sirens_has 1 0 0 (zqI z) (j16  D2) 0 0 z D2 16 [] []) (fun  D2 => ?_) (fun j16 h16 => ?_)
    · refine z_iconst (pc := 16) d_Sirens_has_16 ki_0 ?_
      exact z_sub [] rfl (h17 (0 : Int32) D2)
    · refine z_iload_n (pc := 0) d_Sirens_has_0 rfl 1 rfl ?_
      refine z_if_lt (pc := 1) (tgt := 16) d_Sirens_has_1 (by decide) ?_ ?_
      · exact z_sub [] rfl (h16 D)
      · refine z_iload_n (pc := 4) d_Sirens_has_4 rfl 1 rfl ?_
        refine z_aload_n (pc := 5) d_Sirens_has_5 rfl 0 rfl ?_
        refine z_getI (pc := 6) fl_Sirens_34 d_Sirens_has_6 (fun v3 => ?_)
        refine z_icmp_ge (pc := 9) (tgt := 16) d_Sirens_has_9 (by decide) ?_ ?_
        · exact z_sub [] rfl (h16 D)
        · refine z_iconst (pc := 12) d_Sirens_has_12 ki_1 ?_
          refine z_goto (pc := 13) (tgt := 17) d_Sirens_has_13 (by decide) ?_
          exact z_sub [] rfl (h17 (1 : Int32) D)
theorem d_Sirens_add_0 : decode Y_Sirens_add.2.1 0 = .ok (.aload_n 0, 1) := by decide +kernel
theorem d_Sirens_add_1 : decode Y_Sirens_add.2.1 1 = .ok (.getfield 34, 3) := by decide +kernel
theorem d_Sirens_add_4 : decode Y_Sirens_add.2.1 4 = .ok (.iconst (4), 1) := by decide +kernel
theorem d_Sirens_add_5 : decode Y_Sirens_add.2.1 5 = .ok (.if_icmp .lt (5), 3) := by decide +kernel
theorem d_Sirens_add_8 : decode Y_Sirens_add.2.1 8 = .ok (.iconst (-1), 1) := by decide +kernel
theorem d_Sirens_add_9 : decode Y_Sirens_add.2.1 9 = .ok (.ireturn, 1) := by decide +kernel
theorem d_Sirens_add_10 : decode Y_Sirens_add.2.1 10 = .ok (.aload_n 0, 1) := by decide +kernel
theorem d_Sirens_add_11 : decode Y_Sirens_add.2.1 11 = .ok (.getfield 11, 3) := by decide +kernel
theorem d_Sirens_add_14 : decode Y_Sirens_add.2.1 14 = .ok (.aload_n 0, 1) := by decide +kernel
theorem d_Sirens_add_15 : decode Y_Sirens_add.2.1 15 = .ok (.getfield 34, 3) := by decide +kernel
theorem d_Sirens_add_18 : decode Y_Sirens_add.2.1 18 = .ok (.iload_n 1, 1) := by decide +kernel
theorem d_Sirens_add_19 : decode Y_Sirens_add.2.1 19 = .ok (.iastore, 1) := by decide +kernel
theorem d_Sirens_add_20 : decode Y_Sirens_add.2.1 20 = .ok (.aload_n 0, 1) := by decide +kernel
theorem d_Sirens_add_21 : decode Y_Sirens_add.2.1 21 = .ok (.getfield 15, 3) := by decide +kernel
theorem d_Sirens_add_24 : decode Y_Sirens_add.2.1 24 = .ok (.aload_n 0, 1) := by decide +kernel
theorem d_Sirens_add_25 : decode Y_Sirens_add.2.1 25 = .ok (.getfield 34, 3) := by decide +kernel
theorem d_Sirens_add_28 : decode Y_Sirens_add.2.1 28 = .ok (.iload_n 2, 1) := by decide +kernel
theorem d_Sirens_add_29 : decode Y_Sirens_add.2.1 29 = .ok (.iastore, 1) := by decide +kernel
theorem d_Sirens_add_30 : decode Y_Sirens_add.2.1 30 = .ok (.aload_n 0, 1) := by decide +kernel
theorem d_Sirens_add_31 : decode Y_Sirens_add.2.1 31 = .ok (.getfield 18, 3) := by decide +kernel
theorem d_Sirens_add_34 : decode Y_Sirens_add.2.1 34 = .ok (.aload_n 0, 1) := by decide +kernel
theorem d_Sirens_add_35 : decode Y_Sirens_add.2.1 35 = .ok (.getfield 34, 3) := by decide +kernel
theorem d_Sirens_add_38 : decode Y_Sirens_add.2.1 38 = .ok (.iload_n 3, 1) := by decide +kernel
theorem d_Sirens_add_39 : decode Y_Sirens_add.2.1 39 = .ok (.iastore, 1) := by decide +kernel
theorem d_Sirens_add_40 : decode Y_Sirens_add.2.1 40 = .ok (.aload_n 0, 1) := by decide +kernel
theorem d_Sirens_add_41 : decode Y_Sirens_add.2.1 41 = .ok (.getfield 21, 3) := by decide +kernel
theorem d_Sirens_add_44 : decode Y_Sirens_add.2.1 44 = .ok (.aload_n 0, 1) := by decide +kernel
theorem d_Sirens_add_45 : decode Y_Sirens_add.2.1 45 = .ok (.getfield 34, 3) := by decide +kernel
theorem d_Sirens_add_48 : decode Y_Sirens_add.2.1 48 = .ok (.iload 4, 2) := by decide +kernel
theorem d_Sirens_add_50 : decode Y_Sirens_add.2.1 50 = .ok (.iastore, 1) := by decide +kernel
theorem d_Sirens_add_51 : decode Y_Sirens_add.2.1 51 = .ok (.aload_n 0, 1) := by decide +kernel
theorem d_Sirens_add_52 : decode Y_Sirens_add.2.1 52 = .ok (.getfield 24, 3) := by decide +kernel
theorem d_Sirens_add_55 : decode Y_Sirens_add.2.1 55 = .ok (.aload_n 0, 1) := by decide +kernel
theorem d_Sirens_add_56 : decode Y_Sirens_add.2.1 56 = .ok (.getfield 34, 3) := by decide +kernel
theorem d_Sirens_add_59 : decode Y_Sirens_add.2.1 59 = .ok (.iload 5, 2) := by decide +kernel
theorem d_Sirens_add_61 : decode Y_Sirens_add.2.1 61 = .ok (.iastore, 1) := by decide +kernel
theorem d_Sirens_add_62 : decode Y_Sirens_add.2.1 62 = .ok (.aload_n 0, 1) := by decide +kernel
theorem d_Sirens_add_63 : decode Y_Sirens_add.2.1 63 = .ok (.getfield 27, 3) := by decide +kernel
theorem d_Sirens_add_66 : decode Y_Sirens_add.2.1 66 = .ok (.aload_n 0, 1) := by decide +kernel
theorem d_Sirens_add_67 : decode Y_Sirens_add.2.1 67 = .ok (.getfield 34, 3) := by decide +kernel
theorem d_Sirens_add_70 : decode Y_Sirens_add.2.1 70 = .ok (.iconst (0), 1) := by decide +kernel
theorem d_Sirens_add_71 : decode Y_Sirens_add.2.1 71 = .ok (.iastore, 1) := by decide +kernel
theorem d_Sirens_add_72 : decode Y_Sirens_add.2.1 72 = .ok (.aload_n 0, 1) := by decide +kernel
theorem d_Sirens_add_73 : decode Y_Sirens_add.2.1 73 = .ok (.getfield 30, 3) := by decide +kernel
theorem d_Sirens_add_76 : decode Y_Sirens_add.2.1 76 = .ok (.aload_n 0, 1) := by decide +kernel
theorem d_Sirens_add_77 : decode Y_Sirens_add.2.1 77 = .ok (.getfield 34, 3) := by decide +kernel
theorem d_Sirens_add_80 : decode Y_Sirens_add.2.1 80 = .ok (.iconst (1), 1) := by decide +kernel
theorem d_Sirens_add_81 : decode Y_Sirens_add.2.1 81 = .ok (.bastore, 1) := by decide +kernel
theorem d_Sirens_add_82 : decode Y_Sirens_add.2.1 82 = .ok (.aload_n 0, 1) := by decide +kernel
theorem d_Sirens_add_83 : decode Y_Sirens_add.2.1 83 = .ok (.dup, 1) := by decide +kernel
theorem d_Sirens_add_84 : decode Y_Sirens_add.2.1 84 = .ok (.getfield 34, 3) := by decide +kernel
theorem d_Sirens_add_87 : decode Y_Sirens_add.2.1 87 = .ok (.iconst (1), 1) := by decide +kernel
theorem d_Sirens_add_88 : decode Y_Sirens_add.2.1 88 = .ok (.iadd, 1) := by decide +kernel
theorem d_Sirens_add_89 : decode Y_Sirens_add.2.1 89 = .ok (.putfield 34, 3) := by decide +kernel
theorem d_Sirens_add_92 : decode Y_Sirens_add.2.1 92 = .ok (.aload_n 0, 1) := by decide +kernel
theorem d_Sirens_add_93 : decode Y_Sirens_add.2.1 93 = .ok (.getfield 34, 3) := by decide +kernel
theorem d_Sirens_add_96 : decode Y_Sirens_add.2.1 96 = .ok (.iconst (1), 1) := by decide +kernel
theorem d_Sirens_add_97 : decode Y_Sirens_add.2.1 97 = .ok (.isub, 1) := by decide +kernel
theorem d_Sirens_add_98 : decode Y_Sirens_add.2.1 98 = .ok (.ireturn, 1) := by decide +kernel
def f_Sirens_add (w : zW) (D : zD) (a : Nat) (x1 : Int32) (x2 : Int32) (x3 : Int32) (x4 : Int32) (x5 : Int32) : Option (Int32 × zD) := zfld w D 6 7 a (fun v1 => (if v1 < (4 : Int32) then zref w 6 0 a (fun p2 => zfld w D 6 7 a (fun v3 => zast w D 0 p2 v3 x1 (fun D4 => zref w 6 1 a (fun p5 => zfld w D4 6 7 a (fun v6 => zast w D4 0 p5 v6 x2 (fun D7 => zref w 6 2 a (fun p8 => zfld w D7 6 7 a (fun v9 => zast w D7 0 p8 v9 x3 (fun D10 => zref w 6 3 a (fun p11 => zfld w D10 6 7 a (fun v12 => zast w D10 0 p11 v12 x4 (fun D13 => zref w 6 4 a (fun p14 => zfld w D13 6 7 a (fun v15 => zast w D13 0 p14 v15 x5 (fun D16 => zref w 6 5 a (fun p17 => zfld w D16 6 7 a (fun v18 => zast w D16 0 p17 v18 (0 : Int32) (fun D19 => zref w 6 6 a (fun p20 => zfld w D19 6 7 a (fun v21 => zast w D19 2 p20 v21 (vp_nar .boolean (1 : Int32)) (fun D22 => zfld w D22 6 7 a (fun v23 => zput w D22 6 7 a (v23 + (1 : Int32)) (fun D24 => zfld w D24 6 7 a (fun v25 => some (v25 - (1 : Int32), D24))))))))))))))))))))))))) else some ((-1 : Int32), D)))
set_option maxHeartbeats 4000000 in
set_option maxRecDepth 100000 in
theorem c_Sirens_add (z : zT) (D : zD) (a : Nat) (x1 : Int32) (x2 : Int32) (x3 : Int32) (x4 : Int32) (x5 : Int32) : zM Y_Sirens_add 1 0 0 (zqI z) (f_Sirens_add z.2 D a x1 x2 x3 x4 x5) [.ref a, .int x1, .int x2, .int x3, .int x4, .int x5] z D := by
  refine zM_of (plainFor_of_name (by decide +kernel)) rfl (Nat.le_of_ble_eq_true rfl) (fun _ _ _ _ h => nomatch h.1) (fun K => ?_)
  unfold f_Sirens_add
  refine z_aload_n (pc := 0) d_Sirens_add_0 rfl 0 rfl ?_
  refine z_getI (pc := 1) fl_Sirens_34 d_Sirens_add_1 (fun v1 => ?_)
  refine z_iconst (pc := 4) d_Sirens_add_4 ki_4 ?_
  refine z_icmp_lt (pc := 5) (tgt := 10) d_Sirens_add_5 (by decide) ?_ ?_
  · refine z_aload_n (pc := 10) d_Sirens_add_10 rfl 0 rfl ?_
    refine z_getR (pc := 11) fl_Sirens_11 d_Sirens_add_11 (fun p2 => ?_)
    refine z_aload_n (pc := 14) d_Sirens_add_14 rfl 0 rfl ?_
    refine z_getI (pc := 15) fl_Sirens_34 d_Sirens_add_15 (fun v3 => ?_)
    refine z_iload_n (pc := 18) d_Sirens_add_18 rfl 1 rfl ?_
    refine z_iastore (pc := 19) d_Sirens_add_19 (fun D4 => ?_)
    refine z_aload_n (pc := 20) d_Sirens_add_20 rfl 0 rfl ?_
    refine z_getR (pc := 21) fl_Sirens_15 d_Sirens_add_21 (fun p5 => ?_)
    refine z_aload_n (pc := 24) d_Sirens_add_24 rfl 0 rfl ?_
    refine z_getI (pc := 25) fl_Sirens_34 d_Sirens_add_25 (fun v6 => ?_)
    refine z_iload_n (pc := 28) d_Sirens_add_28 rfl 2 rfl ?_
    refine z_iastore (pc := 29) d_Sirens_add_29 (fun D7 => ?_)
    refine z_aload_n (pc := 30) d_Sirens_add_30 rfl 0 rfl ?_
    refine z_getR (pc := 31) fl_Sirens_18 d_Sirens_add_31 (fun p8 => ?_)
    refine z_aload_n (pc := 34) d_Sirens_add_34 rfl 0 rfl ?_
    refine z_getI (pc := 35) fl_Sirens_34 d_Sirens_add_35 (fun v9 => ?_)
    refine z_iload_n (pc := 38) d_Sirens_add_38 rfl 3 rfl ?_
    refine z_iastore (pc := 39) d_Sirens_add_39 (fun D10 => ?_)
    refine z_aload_n (pc := 40) d_Sirens_add_40 rfl 0 rfl ?_
    refine z_getR (pc := 41) fl_Sirens_21 d_Sirens_add_41 (fun p11 => ?_)
    refine z_aload_n (pc := 44) d_Sirens_add_44 rfl 0 rfl ?_
    refine z_getI (pc := 45) fl_Sirens_34 d_Sirens_add_45 (fun v12 => ?_)
    refine z_iload (pc := 48) d_Sirens_add_48 4 rfl ?_
    refine z_iastore (pc := 50) d_Sirens_add_50 (fun D13 => ?_)
    refine z_aload_n (pc := 51) d_Sirens_add_51 rfl 0 rfl ?_
    refine z_getR (pc := 52) fl_Sirens_24 d_Sirens_add_52 (fun p14 => ?_)
    refine z_aload_n (pc := 55) d_Sirens_add_55 rfl 0 rfl ?_
    refine z_getI (pc := 56) fl_Sirens_34 d_Sirens_add_56 (fun v15 => ?_)
    refine z_iload (pc := 59) d_Sirens_add_59 5 rfl ?_
    refine z_iastore (pc := 61) d_Sirens_add_61 (fun D16 => ?_)
    refine z_aload_n (pc := 62) d_Sirens_add_62 rfl 0 rfl ?_
    refine z_getR (pc := 63) fl_Sirens_27 d_Sirens_add_63 (fun p17 => ?_)
    refine z_aload_n (pc := 66) d_Sirens_add_66 rfl 0 rfl ?_
    refine z_getI (pc := 67) fl_Sirens_34 d_Sirens_add_67 (fun v18 => ?_)
    refine z_iconst (pc := 70) d_Sirens_add_70 ki_0 ?_
    refine z_iastore (pc := 71) d_Sirens_add_71 (fun D19 => ?_)
    refine z_aload_n (pc := 72) d_Sirens_add_72 rfl 0 rfl ?_
    refine z_getR (pc := 73) fl_Sirens_30 d_Sirens_add_73 (fun p20 => ?_)
    refine z_aload_n (pc := 76) d_Sirens_add_76 rfl 0 rfl ?_
    refine z_getI (pc := 77) fl_Sirens_34 d_Sirens_add_77 (fun v21 => ?_)
    refine z_iconst (pc := 80) d_Sirens_add_80 ki_1 ?_
    refine z_bastore (pc := 81) d_Sirens_add_81 (fun D22 => ?_)
    refine z_aload_n (pc := 82) d_Sirens_add_82 rfl 0 rfl ?_
    refine z_dup (pc := 83) d_Sirens_add_83 rfl ?_
    refine z_getI (pc := 84) fl_Sirens_34 d_Sirens_add_84 (fun v23 => ?_)
    refine z_iconst (pc := 87) d_Sirens_add_87 ki_1 ?_
    refine z_iadd (pc := 88) d_Sirens_add_88 ?_
    refine z_putI (pc := 89) fl_Sirens_34 d_Sirens_add_89 (fun D24 => ?_)
    refine z_aload_n (pc := 92) d_Sirens_add_92 rfl 0 rfl ?_
    refine z_getI (pc := 93) fl_Sirens_34 d_Sirens_add_93 (fun v25 => ?_)
    refine z_iconst (pc := 96) d_Sirens_add_96 ki_1 ?_
    refine z_isub (pc := 97) d_Sirens_add_97 ?_
    exact z_iret (pc := 98) d_Sirens_add_98 rfl
  · refine z_iconst (pc := 8) d_Sirens_add_8 ki_m1 ?_
    exact z_iret (pc := 9) d_Sirens_add_9 rfl
theorem d_Sirens_turnAllOff_0 : decode Y_Sirens_turnAllOff.2.1 0 = .ok (.iconst (0), 1) := by decide +kernel
theorem d_Sirens_turnAllOff_1 : decode Y_Sirens_turnAllOff.2.1 1 = .ok (.istore_n 1, 1) := by decide +kernel
theorem d_Sirens_turnAllOff_2 : decode Y_Sirens_turnAllOff.2.1 2 = .ok (.iload_n 1, 1) := by decide +kernel
theorem d_Sirens_turnAllOff_3 : decode Y_Sirens_turnAllOff.2.1 3 = .ok (.aload_n 0, 1) := by decide +kernel
theorem d_Sirens_turnAllOff_4 : decode Y_Sirens_turnAllOff.2.1 4 = .ok (.getfield 34, 3) := by decide +kernel
theorem d_Sirens_turnAllOff_7 : decode Y_Sirens_turnAllOff.2.1 7 = .ok (.if_icmp .ge (16), 3) := by decide +kernel
theorem d_Sirens_turnAllOff_10 : decode Y_Sirens_turnAllOff.2.1 10 = .ok (.aload_n 0, 1) := by decide +kernel
theorem d_Sirens_turnAllOff_11 : decode Y_Sirens_turnAllOff.2.1 11 = .ok (.getfield 30, 3) := by decide +kernel
theorem d_Sirens_turnAllOff_14 : decode Y_Sirens_turnAllOff.2.1 14 = .ok (.iload_n 1, 1) := by decide +kernel
theorem d_Sirens_turnAllOff_15 : decode Y_Sirens_turnAllOff.2.1 15 = .ok (.iconst (0), 1) := by decide +kernel
theorem d_Sirens_turnAllOff_16 : decode Y_Sirens_turnAllOff.2.1 16 = .ok (.bastore, 1) := by decide +kernel
theorem d_Sirens_turnAllOff_17 : decode Y_Sirens_turnAllOff.2.1 17 = .ok (.iinc 1 (1), 3) := by decide +kernel
theorem d_Sirens_turnAllOff_20 : decode Y_Sirens_turnAllOff.2.1 20 = .ok (.goto (-18), 3) := by decide +kernel
theorem d_Sirens_turnAllOff_23 : decode Y_Sirens_turnAllOff.2.1 23 = .ok (.return_, 1) := by decide +kernel
def f_Sirens_turnAllOff (w : zW) (D : zD) (a : Nat) : Option (zD) := zjp (zlp (fun (_ : Int32) (_ : zD) => none) (fun (j2 : Int32 → zD → Option (zD)) (x1 : Int32) (D1 : zD) => zfld w D1 6 7 a (fun v2 => (if v2 ≤ x1 then some D1 else zref w 6 6 a (fun p3 => zast w D1 2 p3 x1 (vp_nar .boolean (0 : Int32)) (fun D4 => zlet (x1 + (1 : Int32)) (fun v5 => j2 v5 D4)))))) zfuel) (fun j2 => j2 (0 : Int32) D)
set_option maxHeartbeats 4000000 in
set_option maxRecDepth 100000 in
theorem c_Sirens_turnAllOff (z : zT) (D : zD) (a : Nat) : zM Y_Sirens_turnAllOff 1 0 0 (zqV z) (f_Sirens_turnAllOff z.2 D a) [.ref a] z D := by
  refine zM_of (plainFor_of_name (by decide +kernel)) rfl (Nat.le_of_ble_eq_true rfl) (fun _ _ _ _ h => nomatch h.1) (fun K => ?_)
  unfold f_Sirens_turnAllOff
  refine z_jp (fun j2 : Int32 → zD → Option (zD) => ∀ (x1 : Int32) (D1 : zD), zGO K Y_Sirens_turnAllOff 1 0 0 (zqV z) (j2 x1 D1) 0 0 z D1 2 [(0, .ref a), (1, .int x1)] []) (z_lp (fun j2 : Int32 → zD → Option (zD) => ∀ (x1 : Int32) (D1 : zD), zGO K Y_Sirens_turnAllOff 1 0 0 (zqV z) (j2 x1 D1) 0 0 z D1 2 [(0, .ref a), (1, .int x1)] []) (fun _ _ => z_none) (fun j2 h2 x1 D1 => ?_) zfuel) (fun j2 h2 => ?_)
  · refine z_iload_n (pc := 2) d_Sirens_turnAllOff_2 rfl 1 rfl ?_
    refine z_aload_n (pc := 3) d_Sirens_turnAllOff_3 rfl 0 rfl ?_
    refine z_getI (pc := 4) fl_Sirens_34 d_Sirens_turnAllOff_4 (fun v2 => ?_)
    refine z_icmp_ge (pc := 7) (tgt := 23) d_Sirens_turnAllOff_7 (by decide) ?_ ?_
    · exact z_vret (pc := 23) d_Sirens_turnAllOff_23 rfl
    · refine z_aload_n (pc := 10) d_Sirens_turnAllOff_10 rfl 0 rfl ?_
      refine z_getR (pc := 11) fl_Sirens_30 d_Sirens_turnAllOff_11 (fun p3 => ?_)
      refine z_iload_n (pc := 14) d_Sirens_turnAllOff_14 rfl 1 rfl ?_
      refine z_iconst (pc := 15) d_Sirens_turnAllOff_15 ki_0 ?_
      refine z_bastore (pc := 16) d_Sirens_turnAllOff_16 (fun D4 => ?_)
      refine z_iincL (pc := 17) d_Sirens_turnAllOff_17 ki_1 1 rfl (by decide) (fun v5 => z_lvc (lv2 := [(1, .int v5), (0, .ref a)]) rfl ?_)
      refine z_goto (pc := 20) (tgt := 2) d_Sirens_turnAllOff_20 (by decide) ?_
      exact z_sub [1, 0] rfl (h2 v5 D4)
  · refine z_iconst (pc := 0) d_Sirens_turnAllOff_0 ki_0 ?_
    refine z_istore_n (pc := 1) d_Sirens_turnAllOff_1 rfl (by decide) (lv' := [(1, .int (0 : Int32)), (0, .ref a)]) rfl ?_
    exact z_sub [1, 0] rfl (h2 (0 : Int32) D)
theorem d_Sirens_howManyOn_0 : decode Y_Sirens_howManyOn.2.1 0 = .ok (.iconst (0), 1) := by decide +kernel
theorem d_Sirens_howManyOn_1 : decode Y_Sirens_howManyOn.2.1 1 = .ok (.istore_n 1, 1) := by decide +kernel
theorem d_Sirens_howManyOn_2 : decode Y_Sirens_howManyOn.2.1 2 = .ok (.iconst (0), 1) := by decide +kernel
theorem d_Sirens_howManyOn_3 : decode Y_Sirens_howManyOn.2.1 3 = .ok (.istore_n 2, 1) := by decide +kernel
theorem d_Sirens_howManyOn_4 : decode Y_Sirens_howManyOn.2.1 4 = .ok (.iload_n 2, 1) := by decide +kernel
theorem d_Sirens_howManyOn_5 : decode Y_Sirens_howManyOn.2.1 5 = .ok (.aload_n 0, 1) := by decide +kernel
theorem d_Sirens_howManyOn_6 : decode Y_Sirens_howManyOn.2.1 6 = .ok (.getfield 34, 3) := by decide +kernel
theorem d_Sirens_howManyOn_9 : decode Y_Sirens_howManyOn.2.1 9 = .ok (.if_icmp .ge (21), 3) := by decide +kernel
theorem d_Sirens_howManyOn_12 : decode Y_Sirens_howManyOn.2.1 12 = .ok (.aload_n 0, 1) := by decide +kernel
theorem d_Sirens_howManyOn_13 : decode Y_Sirens_howManyOn.2.1 13 = .ok (.getfield 30, 3) := by decide +kernel
theorem d_Sirens_howManyOn_16 : decode Y_Sirens_howManyOn.2.1 16 = .ok (.iload_n 2, 1) := by decide +kernel
theorem d_Sirens_howManyOn_17 : decode Y_Sirens_howManyOn.2.1 17 = .ok (.baload, 1) := by decide +kernel
theorem d_Sirens_howManyOn_18 : decode Y_Sirens_howManyOn.2.1 18 = .ok (.ifCond .eq (6), 3) := by decide +kernel
theorem d_Sirens_howManyOn_21 : decode Y_Sirens_howManyOn.2.1 21 = .ok (.iinc 1 (1), 3) := by decide +kernel
theorem d_Sirens_howManyOn_24 : decode Y_Sirens_howManyOn.2.1 24 = .ok (.iinc 2 (1), 3) := by decide +kernel
theorem d_Sirens_howManyOn_27 : decode Y_Sirens_howManyOn.2.1 27 = .ok (.goto (-23), 3) := by decide +kernel
theorem d_Sirens_howManyOn_30 : decode Y_Sirens_howManyOn.2.1 30 = .ok (.iload_n 1, 1) := by decide +kernel
theorem d_Sirens_howManyOn_31 : decode Y_Sirens_howManyOn.2.1 31 = .ok (.ireturn, 1) := by decide +kernel
def f_Sirens_howManyOn (w : zW) (D : zD) (a : Nat) : Option (Int32 × zD) := zjp (zlp (fun (_ : Int32) (_ : Int32) (_ : zD) => none) (fun (j4 : Int32 → Int32 → zD → Option (Int32 × zD)) (x1 : Int32) (x2 : Int32) (D1 : zD) => zfld w D1 6 7 a (fun v2 => (if v2 ≤ x2 then some (x1, D1) else zjp (fun (x1 : Int32) (x2 : Int32) (D3 : zD) => zlet (x2 + (1 : Int32)) (fun v4 => j4 x1 v4 D3)) (fun j24 => zref w 6 6 a (fun p5 => zald w D1 2 p5 x2 (fun v6 => (if v6 = 0 then j24 x1 x2 D1 else zlet (x1 + (1 : Int32)) (fun v7 => j24 v7 x2 D1)))))))) zfuel) (fun j4 => j4 (0 : Int32) (0 : Int32) D)
set_option maxHeartbeats 4000000 in
set_option maxRecDepth 100000 in
theorem c_Sirens_howManyOn (z : zT) (D : zD) (a : Nat) : zM Y_Sirens_howManyOn 1 0 0 (zqI z) (f_Sirens_howManyOn z.2 D a) [.ref a] z D := by
  refine zM_of (plainFor_of_name (by decide +kernel)) rfl (Nat.le_of_ble_eq_true rfl) (fun _ _ _ _ h => nomatch h.1) (fun K => ?_)
  unfold f_Sirens_howManyOn
  refine z_jp (fun j4 : Int32 → Int32 → zD → Option (Int32 × zD) => ∀ (x1 : Int32) (x2 : Int32) (D1 : zD), zGO K Y_Sirens_howManyOn 1 0 0 (zqI z) (j4 x1 x2 D1) 0 0 z D1 4 [(0, .ref a), (1, .int x1), (2, .int x2)] []) (z_lp (fun j4 : Int32 → Int32 → zD → Option (Int32 × zD) => ∀ (x1 : Int32) (x2 : Int32) (D1 : zD), zGO K Y_Sirens_howManyOn 1 0 0 (zqI z) (j4 x1 x2 D1) 0 0 z D1 4 [(0, .ref a), (1, .int x1), (2, .int x2)] []) (fun _ _ _ => z_none) (fun j4 h4 x1 x2 D1 => ?_) zfuel) (fun j4 h4 => ?_)
  · refine z_iload_n (pc := 4) d_Sirens_howManyOn_4 rfl 2 rfl ?_
    refine z_aload_n (pc := 5) d_Sirens_howManyOn_5 rfl 0 rfl ?_
    refine z_getI (pc := 6) fl_Sirens_34 d_Sirens_howManyOn_6 (fun v2 => ?_)
    refine z_icmp_ge (pc := 9) (tgt := 30) d_Sirens_howManyOn_9 (by decide) ?_ ?_
    · refine z_iload_n (pc := 30) d_Sirens_howManyOn_30 rfl 1 rfl ?_
      exact z_iret (pc := 31) d_Sirens_howManyOn_31 rfl
    · refine z_jp (fun j24 : Int32 → Int32 → zD → Option (Int32 × zD) => ∀ (x1 : Int32) (x2 : Int32) (D3 : zD), zGO K Y_Sirens_howManyOn 1 0 0 (zqI z) (j24 x1 x2 D3) 0 0 z D3 24 [(0, .ref a), (1, .int x1), (2, .int x2)] []) (fun x1 x2 D3 => ?_) (fun j24 h24 => ?_)
      · refine z_iincL (pc := 24) d_Sirens_howManyOn_24 ki_1 2 rfl (by decide) (fun v4 => z_lvc (lv2 := [(2, .int v4), (0, .ref a), (1, .int x1)]) rfl ?_)
        refine z_goto (pc := 27) (tgt := 4) d_Sirens_howManyOn_27 (by decide) ?_
        exact z_sub [1, 2, 0] rfl (h4 x1 v4 D3)
      · refine z_aload_n (pc := 12) d_Sirens_howManyOn_12 rfl 0 rfl ?_
        refine z_getR (pc := 13) fl_Sirens_30 d_Sirens_howManyOn_13 (fun p5 => ?_)
        refine z_iload_n (pc := 16) d_Sirens_howManyOn_16 rfl 2 rfl ?_
        refine z_baload (pc := 17) d_Sirens_howManyOn_17 (fun v6 => ?_)
        refine z_if_eq (pc := 18) (tgt := 24) d_Sirens_howManyOn_18 (by decide) ?_ ?_
        · exact z_sub [0, 1, 2] rfl (h24 x1 x2 D1)
        · refine z_iincL (pc := 21) d_Sirens_howManyOn_21 ki_1 1 rfl (by decide) (fun v7 => z_lvc (lv2 := [(1, .int v7), (0, .ref a), (2, .int x2)]) rfl ?_)
          exact z_sub [1, 0, 2] rfl (h24 v7 x2 D1)
  · refine z_iconst (pc := 0) d_Sirens_howManyOn_0 ki_0 ?_
    refine z_istore_n (pc := 1) d_Sirens_howManyOn_1 rfl (by decide) (lv' := [(1, .int (0 : Int32)), (0, .ref a)]) rfl ?_
    refine z_iconst (pc := 2) d_Sirens_howManyOn_2 ki_0 ?_
    refine z_istore_n (pc := 3) d_Sirens_howManyOn_3 rfl (by decide) (lv' := [(2, .int (0 : Int32)), (1, .int (0 : Int32)), (0, .ref a)]) rfl ?_
    exact z_sub [2, 1, 0] rfl (h4 (0 : Int32) (0 : Int32) D)
theorem d_Sirens_nextPlace_0 : decode Y_Sirens_nextPlace.2.1 0 = .ok (.bipush (8), 2) := by decide +kernel
theorem d_Sirens_nextPlace_2 : decode Y_Sirens_nextPlace.2.1 2 = .ok (.aload_n 0, 1) := by decide +kernel
theorem d_Sirens_nextPlace_3 : decode Y_Sirens_nextPlace.2.1 3 = .ok (.getfield 18, 3) := by decide +kernel
theorem d_Sirens_nextPlace_6 : decode Y_Sirens_nextPlace.2.1 6 = .ok (.iload_n 1, 1) := by decide +kernel
theorem d_Sirens_nextPlace_7 : decode Y_Sirens_nextPlace.2.1 7 = .ok (.iaload, 1) := by decide +kernel
theorem d_Sirens_nextPlace_8 : decode Y_Sirens_nextPlace.2.1 8 = .ok (.imul, 1) := by decide +kernel
theorem d_Sirens_nextPlace_9 : decode Y_Sirens_nextPlace.2.1 9 = .ok (.istore_n 3, 1) := by decide +kernel
theorem d_Sirens_nextPlace_10 : decode Y_Sirens_nextPlace.2.1 10 = .ok (.iload_n 2, 1) := by decide +kernel
theorem d_Sirens_nextPlace_11 : decode Y_Sirens_nextPlace.2.1 11 = .ok (.aload_n 0, 1) := by decide +kernel
theorem d_Sirens_nextPlace_12 : decode Y_Sirens_nextPlace.2.1 12 = .ok (.getfield 21, 3) := by decide +kernel
theorem d_Sirens_nextPlace_15 : decode Y_Sirens_nextPlace.2.1 15 = .ok (.iload_n 1, 1) := by decide +kernel
theorem d_Sirens_nextPlace_16 : decode Y_Sirens_nextPlace.2.1 16 = .ok (.iaload, 1) := by decide +kernel
theorem d_Sirens_nextPlace_17 : decode Y_Sirens_nextPlace.2.1 17 = .ok (.iadd, 1) := by decide +kernel
theorem d_Sirens_nextPlace_18 : decode Y_Sirens_nextPlace.2.1 18 = .ok (.istore 4, 2) := by decide +kernel
theorem d_Sirens_nextPlace_20 : decode Y_Sirens_nextPlace.2.1 20 = .ok (.iload 4, 2) := by decide +kernel
theorem d_Sirens_nextPlace_22 : decode Y_Sirens_nextPlace.2.1 22 = .ok (.ifCond .ge (8), 3) := by decide +kernel
theorem d_Sirens_nextPlace_25 : decode Y_Sirens_nextPlace.2.1 25 = .ok (.iload 4, 2) := by decide +kernel
theorem d_Sirens_nextPlace_27 : decode Y_Sirens_nextPlace.2.1 27 = .ok (.iload_n 3, 1) := by decide +kernel
theorem d_Sirens_nextPlace_28 : decode Y_Sirens_nextPlace.2.1 28 = .ok (.iadd, 1) := by decide +kernel
theorem d_Sirens_nextPlace_29 : decode Y_Sirens_nextPlace.2.1 29 = .ok (.ireturn, 1) := by decide +kernel
theorem d_Sirens_nextPlace_30 : decode Y_Sirens_nextPlace.2.1 30 = .ok (.iload 4, 2) := by decide +kernel
theorem d_Sirens_nextPlace_32 : decode Y_Sirens_nextPlace.2.1 32 = .ok (.iload_n 3, 1) := by decide +kernel
theorem d_Sirens_nextPlace_33 : decode Y_Sirens_nextPlace.2.1 33 = .ok (.if_icmp .lt (10), 3) := by decide +kernel
theorem d_Sirens_nextPlace_36 : decode Y_Sirens_nextPlace.2.1 36 = .ok (.iload 4, 2) := by decide +kernel
theorem d_Sirens_nextPlace_38 : decode Y_Sirens_nextPlace.2.1 38 = .ok (.iload_n 3, 1) := by decide +kernel
theorem d_Sirens_nextPlace_39 : decode Y_Sirens_nextPlace.2.1 39 = .ok (.isub, 1) := by decide +kernel
theorem d_Sirens_nextPlace_40 : decode Y_Sirens_nextPlace.2.1 40 = .ok (.goto (5), 3) := by decide +kernel
theorem d_Sirens_nextPlace_43 : decode Y_Sirens_nextPlace.2.1 43 = .ok (.iload 4, 2) := by decide +kernel
theorem d_Sirens_nextPlace_45 : decode Y_Sirens_nextPlace.2.1 45 = .ok (.ireturn, 1) := by decide +kernel
def f_Sirens_nextPlace (w : zW) (D : zD) (a : Nat) (x1 : Int32) (x2 : Int32) : Option (Int32 × zD) := zref w 6 2 a (fun p1 => zald w D 0 p1 x1 (fun v2 => zlet ((8 : Int32) * v2) (fun v3 => zref w 6 3 a (fun p4 => zald w D 0 p4 x1 (fun v5 => zlet (x2 + v5) (fun v6 => (if 0 ≤ v6 then zjp (fun (s0 : Int32) (D7 : zD) => some (s0, D7)) (fun j45 => (if v6 < v3 then j45 v6 D else j45 (v6 - v3) D)) else some (v6 + v3, D))))))))
set_option maxHeartbeats 4000000 in
set_option maxRecDepth 100000 in
theorem c_Sirens_nextPlace (z : zT) (D : zD) (a : Nat) (x1 : Int32) (x2 : Int32) : zM Y_Sirens_nextPlace 1 0 0 (zqI z) (f_Sirens_nextPlace z.2 D a x1 x2) [.ref a, .int x1, .int x2] z D := by
  refine zM_of (plainFor_of_name (by decide +kernel)) rfl (Nat.le_of_ble_eq_true rfl) (fun _ _ _ _ h => nomatch h.1) (fun K => ?_)
  unfold f_Sirens_nextPlace
  refine z_bipush (pc := 0) d_Sirens_nextPlace_0 kb_8 ?_
  refine z_aload_n (pc := 2) d_Sirens_nextPlace_2 rfl 0 rfl ?_
  refine z_getR (pc := 3) fl_Sirens_18 d_Sirens_nextPlace_3 (fun p1 => ?_)
  refine z_iload_n (pc := 6) d_Sirens_nextPlace_6 rfl 1 rfl ?_
  refine z_iaload (pc := 7) d_Sirens_nextPlace_7 (fun v2 => ?_)
  refine z_imul (pc := 8) d_Sirens_nextPlace_8 ?_
  refine z_leti (fun v3 => ?_)
  refine z_istore_n (pc := 9) d_Sirens_nextPlace_9 rfl (by decide) (lv' := [(3, .int v3), (0, .ref a), (1, .int x1), (2, .int x2)]) rfl ?_
  refine z_iload_n (pc := 10) d_Sirens_nextPlace_10 rfl 3 rfl ?_
  refine z_aload_n (pc := 11) d_Sirens_nextPlace_11 rfl 1 rfl ?_
  refine z_getR (pc := 12) fl_Sirens_21 d_Sirens_nextPlace_12 (fun p4 => ?_)
  refine z_iload_n (pc := 15) d_Sirens_nextPlace_15 rfl 2 rfl ?_
  refine z_iaload (pc := 16) d_Sirens_nextPlace_16 (fun v5 => ?_)
  refine z_iadd (pc := 17) d_Sirens_nextPlace_17 ?_
  refine z_leti (fun v6 => ?_)
  refine z_istore (pc := 18) d_Sirens_nextPlace_18 (by decide) (lv' := [(4, .int v6), (3, .int v3), (0, .ref a), (1, .int x1), (2, .int x2)]) rfl ?_
  refine z_iload (pc := 20) d_Sirens_nextPlace_20 0 rfl ?_
  refine z_if_ge (pc := 22) (tgt := 30) d_Sirens_nextPlace_22 (by decide) ?_ ?_
  · refine z_jp (fun j45 : Int32 → zD → Option (Int32 × zD) => ∀ (s0 : Int32) (D7 : zD), zGO K Y_Sirens_nextPlace 1 0 0 (zqI z) (j45 s0 D7) 0 0 z D7 45 [] [.int s0]) (fun s0 D7 => ?_) (fun j45 h45 => ?_)
    · exact z_iret (pc := 45) d_Sirens_nextPlace_45 rfl
    · refine z_iload (pc := 30) d_Sirens_nextPlace_30 0 rfl ?_
      refine z_iload_n (pc := 32) d_Sirens_nextPlace_32 rfl 1 rfl ?_
      refine z_icmp_lt (pc := 33) (tgt := 43) d_Sirens_nextPlace_33 (by decide) ?_ ?_
      · refine z_iload (pc := 43) d_Sirens_nextPlace_43 0 rfl ?_
        exact z_sub [] rfl (h45 v6 D)
      · refine z_iload (pc := 36) d_Sirens_nextPlace_36 0 rfl ?_
        refine z_iload_n (pc := 38) d_Sirens_nextPlace_38 rfl 1 rfl ?_
        refine z_isub (pc := 39) d_Sirens_nextPlace_39 ?_
        refine z_goto (pc := 40) (tgt := 45) d_Sirens_nextPlace_40 (by decide) ?_
        exact z_sub [] rfl (h45 (v6 - v3) D)
  · refine z_iload (pc := 25) d_Sirens_nextPlace_25 0 rfl ?_
    refine z_iload_n (pc := 27) d_Sirens_nextPlace_27 rfl 1 rfl ?_
    refine z_iadd (pc := 28) d_Sirens_nextPlace_28 ?_
    exact z_iret (pc := 29) d_Sirens_nextPlace_29 rfl
theorem d_Sirens_isDue_0 : decode Y_Sirens_isDue.2.1 0 = .ok (.aload_n 0, 1) := by decide +kernel
theorem d_Sirens_isDue_1 : decode Y_Sirens_isDue.2.1 1 = .ok (.getfield 30, 3) := by decide +kernel
theorem d_Sirens_isDue_4 : decode Y_Sirens_isDue.2.1 4 = .ok (.iload_n 1, 1) := by decide +kernel
theorem d_Sirens_isDue_5 : decode Y_Sirens_isDue.2.1 5 = .ok (.baload, 1) := by decide +kernel
theorem d_Sirens_isDue_6 : decode Y_Sirens_isDue.2.1 6 = .ok (.ifCond .eq (27), 3) := by decide +kernel
theorem d_Sirens_isDue_9 : decode Y_Sirens_isDue.2.1 9 = .ok (.aload_n 0, 1) := by decide +kernel
theorem d_Sirens_isDue_10 : decode Y_Sirens_isDue.2.1 10 = .ok (.getfield 24, 3) := by decide +kernel
theorem d_Sirens_isDue_13 : decode Y_Sirens_isDue.2.1 13 = .ok (.iload_n 1, 1) := by decide +kernel
theorem d_Sirens_isDue_14 : decode Y_Sirens_isDue.2.1 14 = .ok (.iaload, 1) := by decide +kernel
theorem d_Sirens_isDue_15 : decode Y_Sirens_isDue.2.1 15 = .ok (.ifCond .le (18), 3) := by decide +kernel
theorem d_Sirens_isDue_18 : decode Y_Sirens_isDue.2.1 18 = .ok (.iload_n 2, 1) := by decide +kernel
theorem d_Sirens_isDue_19 : decode Y_Sirens_isDue.2.1 19 = .ok (.aload_n 0, 1) := by decide +kernel
theorem d_Sirens_isDue_20 : decode Y_Sirens_isDue.2.1 20 = .ok (.getfield 24, 3) := by decide +kernel
theorem d_Sirens_isDue_23 : decode Y_Sirens_isDue.2.1 23 = .ok (.iload_n 1, 1) := by decide +kernel
theorem d_Sirens_isDue_24 : decode Y_Sirens_isDue.2.1 24 = .ok (.iaload, 1) := by decide +kernel
theorem d_Sirens_isDue_25 : decode Y_Sirens_isDue.2.1 25 = .ok (.irem, 1) := by decide +kernel
theorem d_Sirens_isDue_26 : decode Y_Sirens_isDue.2.1 26 = .ok (.ifCond .ne (7), 3) := by decide +kernel
theorem d_Sirens_isDue_29 : decode Y_Sirens_isDue.2.1 29 = .ok (.iconst (1), 1) := by decide +kernel
theorem d_Sirens_isDue_30 : decode Y_Sirens_isDue.2.1 30 = .ok (.goto (4), 3) := by decide +kernel
theorem d_Sirens_isDue_33 : decode Y_Sirens_isDue.2.1 33 = .ok (.iconst (0), 1) := by decide +kernel
theorem d_Sirens_isDue_34 : decode Y_Sirens_isDue.2.1 34 = .ok (.ireturn, 1) := by decide +kernel
def f_Sirens_isDue (w : zW) (D : zD) (a : Nat) (x1 : Int32) (x2 : Int32) : Option (Int32 × zD) := zjp (fun (s0 : Int32) (D1 : zD) => zchk (s0 = 0 ∨ s0 = 1) (some (s0, D1))) (fun j34 => zjp (fun (D2 : zD) => j34 (0 : Int32) D2) (fun j33 => zref w 6 6 a (fun p3 => zald w D 2 p3 x1 (fun v4 => (if v4 = 0 then j33 D else zref w 6 4 a (fun p5 => zald w D 0 p5 x1 (fun v6 => (if v6 ≤ 0 then j33 D else zref w 6 4 a (fun p7 => zald w D 0 p7 x1 (fun v8 => zchk (¬ v8 = 0) ((if (zirem x2 v8) = 0 then j34 (1 : Int32) D else j33 D))))))))))))
set_option maxHeartbeats 4000000 in
set_option maxRecDepth 100000 in
theorem c_Sirens_isDue (z : zT) (D : zD) (a : Nat) (x1 : Int32) (x2 : Int32) : zM Y_Sirens_isDue 1 0 0 (zqI z) (f_Sirens_isDue z.2 D a x1 x2) [.ref a, .int x1, .int x2] z D := by
  refine zM_of (plainFor_of_name (by decide +kernel)) rfl (Nat.le_of_ble_eq_true rfl) (fun _ _ _ _ h => nomatch h.1) (fun K => ?_)
  unfold f_Sirens_isDue
  refine z_jp (fun j34 : Int32 → zD → Option (Int32 × zD) => ∀ (s0 : Int32) (D1 : zD), zGO K Y_Sirens_isDue 1 0 0 (zqI z) (j34 s0 D1) 0 0 z D1 34 [] [.int s0]) (fun s0 D1 => ?_) (fun j34 h34 => ?_)
  · exact z_zret (pc := 34) d_Sirens_isDue_34 rfl
  · refine z_jp (fun j33 : zD → Option (Int32 × zD) => ∀ (D2 : zD), zGO K Y_Sirens_isDue 1 0 0 (zqI z) (j33  D2) 0 0 z D2 33 [] []) (fun  D2 => ?_) (fun j33 h33 => ?_)
    · refine z_iconst (pc := 33) d_Sirens_isDue_33 ki_0 ?_
      exact z_sub [] rfl (h34 (0 : Int32) D2)
    · refine z_aload_n (pc := 0) d_Sirens_isDue_0 rfl 0 rfl ?_
      refine z_getR (pc := 1) fl_Sirens_30 d_Sirens_isDue_1 (fun p3 => ?_)
      refine z_iload_n (pc := 4) d_Sirens_isDue_4 rfl 1 rfl ?_
      refine z_baload (pc := 5) d_Sirens_isDue_5 (fun v4 => ?_)
      refine z_if_eq (pc := 6) (tgt := 33) d_Sirens_isDue_6 (by decide) ?_ ?_
      · exact z_sub [] rfl (h33 D)
      · refine z_aload_n (pc := 9) d_Sirens_isDue_9 rfl 0 rfl ?_
        refine z_getR (pc := 10) fl_Sirens_24 d_Sirens_isDue_10 (fun p5 => ?_)
        refine z_iload_n (pc := 13) d_Sirens_isDue_13 rfl 1 rfl ?_
        refine z_iaload (pc := 14) d_Sirens_isDue_14 (fun v6 => ?_)
        refine z_if_le (pc := 15) (tgt := 33) d_Sirens_isDue_15 (by decide) ?_ ?_
        · exact z_sub [] rfl (h33 D)
        · refine z_iload_n (pc := 18) d_Sirens_isDue_18 rfl 2 rfl ?_
          refine z_aload_n (pc := 19) d_Sirens_isDue_19 rfl 0 rfl ?_
          refine z_getR (pc := 20) fl_Sirens_24 d_Sirens_isDue_20 (fun p7 => ?_)
          refine z_iload_n (pc := 23) d_Sirens_isDue_23 rfl 1 rfl ?_
          refine z_iaload (pc := 24) d_Sirens_isDue_24 (fun v8 => ?_)
          refine z_irem (pc := 25) d_Sirens_isDue_25 ?_
          refine z_if_ne (pc := 26) (tgt := 33) d_Sirens_isDue_26 (by decide) ?_ ?_
          · refine z_iconst (pc := 29) d_Sirens_isDue_29 ki_1 ?_
            refine z_goto (pc := 30) (tgt := 34) d_Sirens_isDue_30 (by decide) ?_
            exact z_sub [] rfl (h34 (1 : Int32) D)
          · exact z_sub [] rfl (h33 D)
theorem d_Sirens_placeX_0 : decode Y_Sirens_placeX.2.1 0 = .ok (.iconst (2), 1) := by decide +kernel
theorem d_Sirens_placeX_1 : decode Y_Sirens_placeX.2.1 1 = .ok (.aload_n 0, 1) := by decide +kernel
theorem d_Sirens_placeX_2 : decode Y_Sirens_placeX.2.1 2 = .ok (.getfield 18, 3) := by decide +kernel
theorem d_Sirens_placeX_5 : decode Y_Sirens_placeX.2.1 5 = .ok (.iload_n 1, 1) := by decide +kernel
theorem d_Sirens_placeX_6 : decode Y_Sirens_placeX.2.1 6 = .ok (.iaload, 1) := by decide +kernel
theorem d_Sirens_placeX_7 : decode Y_Sirens_placeX.2.1 7 = .ok (.imul, 1) := by decide +kernel
theorem d_Sirens_placeX_8 : decode Y_Sirens_placeX.2.1 8 = .ok (.istore_n 2, 1) := by decide +kernel
theorem d_Sirens_placeX_9 : decode Y_Sirens_placeX.2.1 9 = .ok (.aload_n 0, 1) := by decide +kernel
theorem d_Sirens_placeX_10 : decode Y_Sirens_placeX.2.1 10 = .ok (.getfield 27, 3) := by decide +kernel
theorem d_Sirens_placeX_13 : decode Y_Sirens_placeX.2.1 13 = .ok (.iload_n 1, 1) := by decide +kernel
theorem d_Sirens_placeX_14 : decode Y_Sirens_placeX.2.1 14 = .ok (.iaload, 1) := by decide +kernel
theorem d_Sirens_placeX_15 : decode Y_Sirens_placeX.2.1 15 = .ok (.istore_n 3, 1) := by decide +kernel
theorem d_Sirens_placeX_16 : decode Y_Sirens_placeX.2.1 16 = .ok (.aload_n 0, 1) := by decide +kernel
theorem d_Sirens_placeX_17 : decode Y_Sirens_placeX.2.1 17 = .ok (.getfield 11, 3) := by decide +kernel
theorem d_Sirens_placeX_20 : decode Y_Sirens_placeX.2.1 20 = .ok (.iload_n 1, 1) := by decide +kernel
theorem d_Sirens_placeX_21 : decode Y_Sirens_placeX.2.1 21 = .ok (.iaload, 1) := by decide +kernel
theorem d_Sirens_placeX_22 : decode Y_Sirens_placeX.2.1 22 = .ok (.aload_n 0, 1) := by decide +kernel
theorem d_Sirens_placeX_23 : decode Y_Sirens_placeX.2.1 23 = .ok (.getfield 18, 3) := by decide +kernel
theorem d_Sirens_placeX_26 : decode Y_Sirens_placeX.2.1 26 = .ok (.iload_n 1, 1) := by decide +kernel
theorem d_Sirens_placeX_27 : decode Y_Sirens_placeX.2.1 27 = .ok (.iaload, 1) := by decide +kernel
theorem d_Sirens_placeX_28 : decode Y_Sirens_placeX.2.1 28 = .ok (.isub, 1) := by decide +kernel
theorem d_Sirens_placeX_29 : decode Y_Sirens_placeX.2.1 29 = .ok (.istore 4, 2) := by decide +kernel
theorem d_Sirens_placeX_31 : decode Y_Sirens_placeX.2.1 31 = .ok (.iload_n 3, 1) := by decide +kernel
theorem d_Sirens_placeX_32 : decode Y_Sirens_placeX.2.1 32 = .ok (.iload_n 2, 1) := by decide +kernel
theorem d_Sirens_placeX_33 : decode Y_Sirens_placeX.2.1 33 = .ok (.if_icmp .gt (8), 3) := by decide +kernel
theorem d_Sirens_placeX_36 : decode Y_Sirens_placeX.2.1 36 = .ok (.iload 4, 2) := by decide +kernel
theorem d_Sirens_placeX_38 : decode Y_Sirens_placeX.2.1 38 = .ok (.iload_n 3, 1) := by decide +kernel
theorem d_Sirens_placeX_39 : decode Y_Sirens_placeX.2.1 39 = .ok (.iadd, 1) := by decide +kernel
theorem d_Sirens_placeX_40 : decode Y_Sirens_placeX.2.1 40 = .ok (.ireturn, 1) := by decide +kernel
theorem d_Sirens_placeX_41 : decode Y_Sirens_placeX.2.1 41 = .ok (.iload_n 3, 1) := by decide +kernel
theorem d_Sirens_placeX_42 : decode Y_Sirens_placeX.2.1 42 = .ok (.iconst (2), 1) := by decide +kernel
theorem d_Sirens_placeX_43 : decode Y_Sirens_placeX.2.1 43 = .ok (.iload_n 2, 1) := by decide +kernel
theorem d_Sirens_placeX_44 : decode Y_Sirens_placeX.2.1 44 = .ok (.imul, 1) := by decide +kernel
theorem d_Sirens_placeX_45 : decode Y_Sirens_placeX.2.1 45 = .ok (.if_icmp .gt (8), 3) := by decide +kernel
theorem d_Sirens_placeX_48 : decode Y_Sirens_placeX.2.1 48 = .ok (.iload 4, 2) := by decide +kernel
theorem d_Sirens_placeX_50 : decode Y_Sirens_placeX.2.1 50 = .ok (.iload_n 2, 1) := by decide +kernel
theorem d_Sirens_placeX_51 : decode Y_Sirens_placeX.2.1 51 = .ok (.iadd, 1) := by decide +kernel
theorem d_Sirens_placeX_52 : decode Y_Sirens_placeX.2.1 52 = .ok (.ireturn, 1) := by decide +kernel
theorem d_Sirens_placeX_53 : decode Y_Sirens_placeX.2.1 53 = .ok (.iload_n 3, 1) := by decide +kernel
theorem d_Sirens_placeX_54 : decode Y_Sirens_placeX.2.1 54 = .ok (.iconst (3), 1) := by decide +kernel
theorem d_Sirens_placeX_55 : decode Y_Sirens_placeX.2.1 55 = .ok (.iload_n 2, 1) := by decide +kernel
theorem d_Sirens_placeX_56 : decode Y_Sirens_placeX.2.1 56 = .ok (.imul, 1) := by decide +kernel
theorem d_Sirens_placeX_57 : decode Y_Sirens_placeX.2.1 57 = .ok (.if_icmp .gt (14), 3) := by decide +kernel
theorem d_Sirens_placeX_60 : decode Y_Sirens_placeX.2.1 60 = .ok (.iload 4, 2) := by decide +kernel
theorem d_Sirens_placeX_62 : decode Y_Sirens_placeX.2.1 62 = .ok (.iconst (3), 1) := by decide +kernel
theorem d_Sirens_placeX_63 : decode Y_Sirens_placeX.2.1 63 = .ok (.iload_n 2, 1) := by decide +kernel
theorem d_Sirens_placeX_64 : decode Y_Sirens_placeX.2.1 64 = .ok (.imul, 1) := by decide +kernel
theorem d_Sirens_placeX_65 : decode Y_Sirens_placeX.2.1 65 = .ok (.iadd, 1) := by decide +kernel
theorem d_Sirens_placeX_66 : decode Y_Sirens_placeX.2.1 66 = .ok (.iload_n 3, 1) := by decide +kernel
theorem d_Sirens_placeX_67 : decode Y_Sirens_placeX.2.1 67 = .ok (.isub, 1) := by decide +kernel
theorem d_Sirens_placeX_68 : decode Y_Sirens_placeX.2.1 68 = .ok (.goto (5), 3) := by decide +kernel
theorem d_Sirens_placeX_71 : decode Y_Sirens_placeX.2.1 71 = .ok (.iload 4, 2) := by decide +kernel
theorem d_Sirens_placeX_73 : decode Y_Sirens_placeX.2.1 73 = .ok (.ireturn, 1) := by decide +kernel
def f_Sirens_placeX (w : zW) (D : zD) (a : Nat) (x1 : Int32) : Option (Int32 × zD) := zref w 6 2 a (fun p1 => zald w D 0 p1 x1 (fun v2 => zlet ((2 : Int32) * v2) (fun v3 => zref w 6 5 a (fun p4 => zald w D 0 p4 x1 (fun v5 => zref w 6 0 a (fun p6 => zald w D 0 p6 x1 (fun v7 => zref w 6 2 a (fun p8 => zald w D 0 p8 x1 (fun v9 => zlet (v7 - v9) (fun v10 => (if v3 < v5 then (if ((2 : Int32) * v3) < v5 then zjp (fun (s0 : Int32) (D11 : zD) => some (s0, D11)) (fun j73 => (if ((3 : Int32) * v3) < v5 then j73 v10 D else j73 ((v10 + ((3 : Int32) * v3)) - v5) D)) else some (v10 + v3, D)) else some (v10 + v5, D))))))))))))
set_option maxHeartbeats 4000000 in
set_option maxRecDepth 100000 in
theorem c_Sirens_placeX (z : zT) (D : zD) (a : Nat) (x1 : Int32) : zM Y_Sirens_placeX 1 0 0 (zqI z) (f_Sirens_placeX z.2 D a x1) [.ref a, .int x1] z D := by
  refine zM_of (plainFor_of_name (by decide +kernel)) rfl (Nat.le_of_ble_eq_true rfl) (fun _ _ _ _ h => nomatch h.1) (fun K => ?_)
  unfold f_Sirens_placeX
  refine z_iconst (pc := 0) d_Sirens_placeX_0 ki_2 ?_
  refine z_aload_n (pc := 1) d_Sirens_placeX_1 rfl 0 rfl ?_
  refine z_getR (pc := 2) fl_Sirens_18 d_Sirens_placeX_2 (fun p1 => ?_)
  refine z_iload_n (pc := 5) d_Sirens_placeX_5 rfl 1 rfl ?_
  refine z_iaload (pc := 6) d_Sirens_placeX_6 (fun v2 => ?_)
  refine z_imul (pc := 7) d_Sirens_placeX_7 ?_
  refine z_leti (fun v3 => ?_)
  refine z_istore_n (pc := 8) d_Sirens_placeX_8 rfl (by decide) (lv' := [(2, .int v3), (0, .ref a), (1, .int x1)]) rfl ?_
  refine z_aload_n (pc := 9) d_Sirens_placeX_9 rfl 1 rfl ?_
  refine z_getR (pc := 10) fl_Sirens_27 d_Sirens_placeX_10 (fun p4 => ?_)
  refine z_iload_n (pc := 13) d_Sirens_placeX_13 rfl 2 rfl ?_
  refine z_iaload (pc := 14) d_Sirens_placeX_14 (fun v5 => ?_)
  refine z_istore_n (pc := 15) d_Sirens_placeX_15 rfl (by decide) (lv' := [(3, .int v5), (2, .int v3), (0, .ref a), (1, .int x1)]) rfl ?_
  refine z_aload_n (pc := 16) d_Sirens_placeX_16 rfl 2 rfl ?_
  refine z_getR (pc := 17) fl_Sirens_11 d_Sirens_placeX_17 (fun p6 => ?_)
  refine z_iload_n (pc := 20) d_Sirens_placeX_20 rfl 3 rfl ?_
  refine z_iaload (pc := 21) d_Sirens_placeX_21 (fun v7 => ?_)
  refine z_aload_n (pc := 22) d_Sirens_placeX_22 rfl 2 rfl ?_
  refine z_getR (pc := 23) fl_Sirens_18 d_Sirens_placeX_23 (fun p8 => ?_)
  refine z_iload_n (pc := 26) d_Sirens_placeX_26 rfl 3 rfl ?_
  refine z_iaload (pc := 27) d_Sirens_placeX_27 (fun v9 => ?_)
  refine z_isub (pc := 28) d_Sirens_placeX_28 ?_
  refine z_leti (fun v10 => ?_)
  refine z_istore (pc := 29) d_Sirens_placeX_29 (by decide) (lv' := [(4, .int v10), (3, .int v5), (2, .int v3), (0, .ref a), (1, .int x1)]) rfl ?_
  refine z_iload_n (pc := 31) d_Sirens_placeX_31 rfl 1 rfl ?_
  refine z_iload_n (pc := 32) d_Sirens_placeX_32 rfl 2 rfl ?_
  refine z_icmp_gt (pc := 33) (tgt := 41) d_Sirens_placeX_33 (by decide) ?_ ?_
  · refine z_iload_n (pc := 41) d_Sirens_placeX_41 rfl 1 rfl ?_
    refine z_iconst (pc := 42) d_Sirens_placeX_42 ki_2 ?_
    refine z_iload_n (pc := 43) d_Sirens_placeX_43 rfl 2 rfl ?_
    refine z_imul (pc := 44) d_Sirens_placeX_44 ?_
    refine z_icmp_gt (pc := 45) (tgt := 53) d_Sirens_placeX_45 (by decide) ?_ ?_
    · refine z_jp (fun j73 : Int32 → zD → Option (Int32 × zD) => ∀ (s0 : Int32) (D11 : zD), zGO K Y_Sirens_placeX 1 0 0 (zqI z) (j73 s0 D11) 0 0 z D11 73 [] [.int s0]) (fun s0 D11 => ?_) (fun j73 h73 => ?_)
      · exact z_iret (pc := 73) d_Sirens_placeX_73 rfl
      · refine z_iload_n (pc := 53) d_Sirens_placeX_53 rfl 1 rfl ?_
        refine z_iconst (pc := 54) d_Sirens_placeX_54 ki_3 ?_
        refine z_iload_n (pc := 55) d_Sirens_placeX_55 rfl 2 rfl ?_
        refine z_imul (pc := 56) d_Sirens_placeX_56 ?_
        refine z_icmp_gt (pc := 57) (tgt := 71) d_Sirens_placeX_57 (by decide) ?_ ?_
        · refine z_iload (pc := 71) d_Sirens_placeX_71 0 rfl ?_
          exact z_sub [] rfl (h73 v10 D)
        · refine z_iload (pc := 60) d_Sirens_placeX_60 0 rfl ?_
          refine z_iconst (pc := 62) d_Sirens_placeX_62 ki_3 ?_
          refine z_iload_n (pc := 63) d_Sirens_placeX_63 rfl 2 rfl ?_
          refine z_imul (pc := 64) d_Sirens_placeX_64 ?_
          refine z_iadd (pc := 65) d_Sirens_placeX_65 ?_
          refine z_iload_n (pc := 66) d_Sirens_placeX_66 rfl 1 rfl ?_
          refine z_isub (pc := 67) d_Sirens_placeX_67 ?_
          refine z_goto (pc := 68) (tgt := 73) d_Sirens_placeX_68 (by decide) ?_
          exact z_sub [] rfl (h73 ((v10 + ((3 : Int32) * v3)) - v5) D)
    · refine z_iload (pc := 48) d_Sirens_placeX_48 0 rfl ?_
      refine z_iload_n (pc := 50) d_Sirens_placeX_50 rfl 2 rfl ?_
      refine z_iadd (pc := 51) d_Sirens_placeX_51 ?_
      exact z_iret (pc := 52) d_Sirens_placeX_52 rfl
  · refine z_iload (pc := 36) d_Sirens_placeX_36 0 rfl ?_
    refine z_iload_n (pc := 38) d_Sirens_placeX_38 rfl 1 rfl ?_
    refine z_iadd (pc := 39) d_Sirens_placeX_39 ?_
    exact z_iret (pc := 40) d_Sirens_placeX_40 rfl
theorem d_Sirens_placeY_0 : decode Y_Sirens_placeY.2.1 0 = .ok (.iconst (2), 1) := by decide +kernel
theorem d_Sirens_placeY_1 : decode Y_Sirens_placeY.2.1 1 = .ok (.aload_n 0, 1) := by decide +kernel
theorem d_Sirens_placeY_2 : decode Y_Sirens_placeY.2.1 2 = .ok (.getfield 18, 3) := by decide +kernel
theorem d_Sirens_placeY_5 : decode Y_Sirens_placeY.2.1 5 = .ok (.iload_n 1, 1) := by decide +kernel
theorem d_Sirens_placeY_6 : decode Y_Sirens_placeY.2.1 6 = .ok (.iaload, 1) := by decide +kernel
theorem d_Sirens_placeY_7 : decode Y_Sirens_placeY.2.1 7 = .ok (.imul, 1) := by decide +kernel
theorem d_Sirens_placeY_8 : decode Y_Sirens_placeY.2.1 8 = .ok (.istore_n 2, 1) := by decide +kernel
theorem d_Sirens_placeY_9 : decode Y_Sirens_placeY.2.1 9 = .ok (.aload_n 0, 1) := by decide +kernel
theorem d_Sirens_placeY_10 : decode Y_Sirens_placeY.2.1 10 = .ok (.getfield 27, 3) := by decide +kernel
theorem d_Sirens_placeY_13 : decode Y_Sirens_placeY.2.1 13 = .ok (.iload_n 1, 1) := by decide +kernel
theorem d_Sirens_placeY_14 : decode Y_Sirens_placeY.2.1 14 = .ok (.iaload, 1) := by decide +kernel
theorem d_Sirens_placeY_15 : decode Y_Sirens_placeY.2.1 15 = .ok (.istore_n 3, 1) := by decide +kernel
theorem d_Sirens_placeY_16 : decode Y_Sirens_placeY.2.1 16 = .ok (.aload_n 0, 1) := by decide +kernel
theorem d_Sirens_placeY_17 : decode Y_Sirens_placeY.2.1 17 = .ok (.getfield 15, 3) := by decide +kernel
theorem d_Sirens_placeY_20 : decode Y_Sirens_placeY.2.1 20 = .ok (.iload_n 1, 1) := by decide +kernel
theorem d_Sirens_placeY_21 : decode Y_Sirens_placeY.2.1 21 = .ok (.iaload, 1) := by decide +kernel
theorem d_Sirens_placeY_22 : decode Y_Sirens_placeY.2.1 22 = .ok (.aload_n 0, 1) := by decide +kernel
theorem d_Sirens_placeY_23 : decode Y_Sirens_placeY.2.1 23 = .ok (.getfield 18, 3) := by decide +kernel
theorem d_Sirens_placeY_26 : decode Y_Sirens_placeY.2.1 26 = .ok (.iload_n 1, 1) := by decide +kernel
theorem d_Sirens_placeY_27 : decode Y_Sirens_placeY.2.1 27 = .ok (.iaload, 1) := by decide +kernel
theorem d_Sirens_placeY_28 : decode Y_Sirens_placeY.2.1 28 = .ok (.isub, 1) := by decide +kernel
theorem d_Sirens_placeY_29 : decode Y_Sirens_placeY.2.1 29 = .ok (.istore 4, 2) := by decide +kernel
theorem d_Sirens_placeY_31 : decode Y_Sirens_placeY.2.1 31 = .ok (.iload_n 3, 1) := by decide +kernel
theorem d_Sirens_placeY_32 : decode Y_Sirens_placeY.2.1 32 = .ok (.iload_n 2, 1) := by decide +kernel
theorem d_Sirens_placeY_33 : decode Y_Sirens_placeY.2.1 33 = .ok (.if_icmp .gt (6), 3) := by decide +kernel
theorem d_Sirens_placeY_36 : decode Y_Sirens_placeY.2.1 36 = .ok (.iload 4, 2) := by decide +kernel
theorem d_Sirens_placeY_38 : decode Y_Sirens_placeY.2.1 38 = .ok (.ireturn, 1) := by decide +kernel
theorem d_Sirens_placeY_39 : decode Y_Sirens_placeY.2.1 39 = .ok (.iload_n 3, 1) := by decide +kernel
theorem d_Sirens_placeY_40 : decode Y_Sirens_placeY.2.1 40 = .ok (.iconst (2), 1) := by decide +kernel
theorem d_Sirens_placeY_41 : decode Y_Sirens_placeY.2.1 41 = .ok (.iload_n 2, 1) := by decide +kernel
theorem d_Sirens_placeY_42 : decode Y_Sirens_placeY.2.1 42 = .ok (.imul, 1) := by decide +kernel
theorem d_Sirens_placeY_43 : decode Y_Sirens_placeY.2.1 43 = .ok (.if_icmp .gt (10), 3) := by decide +kernel
theorem d_Sirens_placeY_46 : decode Y_Sirens_placeY.2.1 46 = .ok (.iload 4, 2) := by decide +kernel
theorem d_Sirens_placeY_48 : decode Y_Sirens_placeY.2.1 48 = .ok (.iload_n 3, 1) := by decide +kernel
theorem d_Sirens_placeY_49 : decode Y_Sirens_placeY.2.1 49 = .ok (.iadd, 1) := by decide +kernel
theorem d_Sirens_placeY_50 : decode Y_Sirens_placeY.2.1 50 = .ok (.iload_n 2, 1) := by decide +kernel
theorem d_Sirens_placeY_51 : decode Y_Sirens_placeY.2.1 51 = .ok (.isub, 1) := by decide +kernel
theorem d_Sirens_placeY_52 : decode Y_Sirens_placeY.2.1 52 = .ok (.ireturn, 1) := by decide +kernel
theorem d_Sirens_placeY_53 : decode Y_Sirens_placeY.2.1 53 = .ok (.iload_n 3, 1) := by decide +kernel
theorem d_Sirens_placeY_54 : decode Y_Sirens_placeY.2.1 54 = .ok (.iconst (3), 1) := by decide +kernel
theorem d_Sirens_placeY_55 : decode Y_Sirens_placeY.2.1 55 = .ok (.iload_n 2, 1) := by decide +kernel
theorem d_Sirens_placeY_56 : decode Y_Sirens_placeY.2.1 56 = .ok (.imul, 1) := by decide +kernel
theorem d_Sirens_placeY_57 : decode Y_Sirens_placeY.2.1 57 = .ok (.if_icmp .gt (10), 3) := by decide +kernel
theorem d_Sirens_placeY_60 : decode Y_Sirens_placeY.2.1 60 = .ok (.iload 4, 2) := by decide +kernel
theorem d_Sirens_placeY_62 : decode Y_Sirens_placeY.2.1 62 = .ok (.iload_n 2, 1) := by decide +kernel
theorem d_Sirens_placeY_63 : decode Y_Sirens_placeY.2.1 63 = .ok (.iadd, 1) := by decide +kernel
theorem d_Sirens_placeY_64 : decode Y_Sirens_placeY.2.1 64 = .ok (.goto (11), 3) := by decide +kernel
theorem d_Sirens_placeY_67 : decode Y_Sirens_placeY.2.1 67 = .ok (.iload 4, 2) := by decide +kernel
theorem d_Sirens_placeY_69 : decode Y_Sirens_placeY.2.1 69 = .ok (.iconst (4), 1) := by decide +kernel
theorem d_Sirens_placeY_70 : decode Y_Sirens_placeY.2.1 70 = .ok (.iload_n 2, 1) := by decide +kernel
theorem d_Sirens_placeY_71 : decode Y_Sirens_placeY.2.1 71 = .ok (.imul, 1) := by decide +kernel
theorem d_Sirens_placeY_72 : decode Y_Sirens_placeY.2.1 72 = .ok (.iadd, 1) := by decide +kernel
theorem d_Sirens_placeY_73 : decode Y_Sirens_placeY.2.1 73 = .ok (.iload_n 3, 1) := by decide +kernel
theorem d_Sirens_placeY_74 : decode Y_Sirens_placeY.2.1 74 = .ok (.isub, 1) := by decide +kernel
theorem d_Sirens_placeY_75 : decode Y_Sirens_placeY.2.1 75 = .ok (.ireturn, 1) := by decide +kernel
def f_Sirens_placeY (w : zW) (D : zD) (a : Nat) (x1 : Int32) : Option (Int32 × zD) := zref w 6 2 a (fun p1 => zald w D 0 p1 x1 (fun v2 => zlet ((2 : Int32) * v2) (fun v3 => zref w 6 5 a (fun p4 => zald w D 0 p4 x1 (fun v5 => zref w 6 1 a (fun p6 => zald w D 0 p6 x1 (fun v7 => zref w 6 2 a (fun p8 => zald w D 0 p8 x1 (fun v9 => zlet (v7 - v9) (fun v10 => (if v3 < v5 then (if ((2 : Int32) * v3) < v5 then zjp (fun (s0 : Int32) (D11 : zD) => some (s0, D11)) (fun j75 => (if ((3 : Int32) * v3) < v5 then j75 ((v10 + ((4 : Int32) * v3)) - v5) D else j75 (v10 + v3) D)) else some ((v10 + v5) - v3, D)) else some (v10, D))))))))))))
set_option maxHeartbeats 4000000 in
set_option maxRecDepth 100000 in
theorem c_Sirens_placeY (z : zT) (D : zD) (a : Nat) (x1 : Int32) : zM Y_Sirens_placeY 1 0 0 (zqI z) (f_Sirens_placeY z.2 D a x1) [.ref a, .int x1] z D := by
  refine zM_of (plainFor_of_name (by decide +kernel)) rfl (Nat.le_of_ble_eq_true rfl) (fun _ _ _ _ h => nomatch h.1) (fun K => ?_)
  unfold f_Sirens_placeY
  refine z_iconst (pc := 0) d_Sirens_placeY_0 ki_2 ?_
  refine z_aload_n (pc := 1) d_Sirens_placeY_1 rfl 0 rfl ?_
  refine z_getR (pc := 2) fl_Sirens_18 d_Sirens_placeY_2 (fun p1 => ?_)
  refine z_iload_n (pc := 5) d_Sirens_placeY_5 rfl 1 rfl ?_
  refine z_iaload (pc := 6) d_Sirens_placeY_6 (fun v2 => ?_)
  refine z_imul (pc := 7) d_Sirens_placeY_7 ?_
  refine z_leti (fun v3 => ?_)
  refine z_istore_n (pc := 8) d_Sirens_placeY_8 rfl (by decide) (lv' := [(2, .int v3), (0, .ref a), (1, .int x1)]) rfl ?_
  refine z_aload_n (pc := 9) d_Sirens_placeY_9 rfl 1 rfl ?_
  refine z_getR (pc := 10) fl_Sirens_27 d_Sirens_placeY_10 (fun p4 => ?_)
  refine z_iload_n (pc := 13) d_Sirens_placeY_13 rfl 2 rfl ?_
  refine z_iaload (pc := 14) d_Sirens_placeY_14 (fun v5 => ?_)
  refine z_istore_n (pc := 15) d_Sirens_placeY_15 rfl (by decide) (lv' := [(3, .int v5), (2, .int v3), (0, .ref a), (1, .int x1)]) rfl ?_
  refine z_aload_n (pc := 16) d_Sirens_placeY_16 rfl 2 rfl ?_
  refine z_getR (pc := 17) fl_Sirens_15 d_Sirens_placeY_17 (fun p6 => ?_)
  refine z_iload_n (pc := 20) d_Sirens_placeY_20 rfl 3 rfl ?_
  refine z_iaload (pc := 21) d_Sirens_placeY_21 (fun v7 => ?_)
  refine z_aload_n (pc := 22) d_Sirens_placeY_22 rfl 2 rfl ?_
  refine z_getR (pc := 23) fl_Sirens_18 d_Sirens_placeY_23 (fun p8 => ?_)
  refine z_iload_n (pc := 26) d_Sirens_placeY_26 rfl 3 rfl ?_
  refine z_iaload (pc := 27) d_Sirens_placeY_27 (fun v9 => ?_)
  refine z_isub (pc := 28) d_Sirens_placeY_28 ?_
  refine z_leti (fun v10 => ?_)
  refine z_istore (pc := 29) d_Sirens_placeY_29 (by decide) (lv' := [(4, .int v10), (3, .int v5), (2, .int v3), (0, .ref a), (1, .int x1)]) rfl ?_
  refine z_iload_n (pc := 31) d_Sirens_placeY_31 rfl 1 rfl ?_
  refine z_iload_n (pc := 32) d_Sirens_placeY_32 rfl 2 rfl ?_
  refine z_icmp_gt (pc := 33) (tgt := 39) d_Sirens_placeY_33 (by decide) ?_ ?_
  · refine z_iload_n (pc := 39) d_Sirens_placeY_39 rfl 1 rfl ?_
    refine z_iconst (pc := 40) d_Sirens_placeY_40 ki_2 ?_
    refine z_iload_n (pc := 41) d_Sirens_placeY_41 rfl 2 rfl ?_
    refine z_imul (pc := 42) d_Sirens_placeY_42 ?_
    refine z_icmp_gt (pc := 43) (tgt := 53) d_Sirens_placeY_43 (by decide) ?_ ?_
    · refine z_jp (fun j75 : Int32 → zD → Option (Int32 × zD) => ∀ (s0 : Int32) (D11 : zD), zGO K Y_Sirens_placeY 1 0 0 (zqI z) (j75 s0 D11) 0 0 z D11 75 [] [.int s0]) (fun s0 D11 => ?_) (fun j75 h75 => ?_)
      · exact z_iret (pc := 75) d_Sirens_placeY_75 rfl
      · refine z_iload_n (pc := 53) d_Sirens_placeY_53 rfl 1 rfl ?_
        refine z_iconst (pc := 54) d_Sirens_placeY_54 ki_3 ?_
        refine z_iload_n (pc := 55) d_Sirens_placeY_55 rfl 2 rfl ?_
        refine z_imul (pc := 56) d_Sirens_placeY_56 ?_
        refine z_icmp_gt (pc := 57) (tgt := 67) d_Sirens_placeY_57 (by decide) ?_ ?_
        · refine z_iload (pc := 67) d_Sirens_placeY_67 0 rfl ?_
          refine z_iconst (pc := 69) d_Sirens_placeY_69 ki_4 ?_
          refine z_iload_n (pc := 70) d_Sirens_placeY_70 rfl 2 rfl ?_
          refine z_imul (pc := 71) d_Sirens_placeY_71 ?_
          refine z_iadd (pc := 72) d_Sirens_placeY_72 ?_
          refine z_iload_n (pc := 73) d_Sirens_placeY_73 rfl 1 rfl ?_
          refine z_isub (pc := 74) d_Sirens_placeY_74 ?_
          exact z_sub [] rfl (h75 ((v10 + ((4 : Int32) * v3)) - v5) D)
        · refine z_iload (pc := 60) d_Sirens_placeY_60 0 rfl ?_
          refine z_iload_n (pc := 62) d_Sirens_placeY_62 rfl 2 rfl ?_
          refine z_iadd (pc := 63) d_Sirens_placeY_63 ?_
          refine z_goto (pc := 64) (tgt := 75) d_Sirens_placeY_64 (by decide) ?_
          exact z_sub [] rfl (h75 (v10 + v3) D)
    · refine z_iload (pc := 46) d_Sirens_placeY_46 0 rfl ?_
      refine z_iload_n (pc := 48) d_Sirens_placeY_48 rfl 1 rfl ?_
      refine z_iadd (pc := 49) d_Sirens_placeY_49 ?_
      refine z_iload_n (pc := 50) d_Sirens_placeY_50 rfl 2 rfl ?_
      refine z_isub (pc := 51) d_Sirens_placeY_51 ?_
      exact z_iret (pc := 52) d_Sirens_placeY_52 rfl
  · refine z_iload (pc := 36) d_Sirens_placeY_36 0 rfl ?_
    exact z_iret (pc := 38) d_Sirens_placeY_38 rfl
theorem d_Sirens_turnTo_0 : decode Y_Sirens_turnTo.2.1 0 = .ok (.aload_n 0, 1) := by decide +kernel
theorem d_Sirens_turnTo_1 : decode Y_Sirens_turnTo.2.1 1 = .ok (.iload_n 1, 1) := by decide +kernel
theorem d_Sirens_turnTo_2 : decode Y_Sirens_turnTo.2.1 2 = .ok (.invokevirtual 44, 3) := by decide +kernel
theorem d_Sirens_turnTo_5 : decode Y_Sirens_turnTo.2.1 5 = .ok (.ifCond .ne (5), 3) := by decide +kernel
theorem d_Sirens_turnTo_8 : decode Y_Sirens_turnTo.2.1 8 = .ok (.iconst (0), 1) := by decide +kernel
theorem d_Sirens_turnTo_9 : decode Y_Sirens_turnTo.2.1 9 = .ok (.ireturn, 1) := by decide +kernel
theorem d_Sirens_turnTo_10 : decode Y_Sirens_turnTo.2.1 10 = .ok (.aload_n 0, 1) := by decide +kernel
theorem d_Sirens_turnTo_11 : decode Y_Sirens_turnTo.2.1 11 = .ok (.getfield 30, 3) := by decide +kernel
theorem d_Sirens_turnTo_14 : decode Y_Sirens_turnTo.2.1 14 = .ok (.iload_n 1, 1) := by decide +kernel
theorem d_Sirens_turnTo_15 : decode Y_Sirens_turnTo.2.1 15 = .ok (.iload_n 2, 1) := by decide +kernel
theorem d_Sirens_turnTo_16 : decode Y_Sirens_turnTo.2.1 16 = .ok (.bastore, 1) := by decide +kernel
theorem d_Sirens_turnTo_17 : decode Y_Sirens_turnTo.2.1 17 = .ok (.iconst (1), 1) := by decide +kernel
theorem d_Sirens_turnTo_18 : decode Y_Sirens_turnTo.2.1 18 = .ok (.ireturn, 1) := by decide +kernel
def f_Sirens_turnTo (w : zW) (D : zD) (a : Nat) (x1 : Int32) (x2 : Int32) : Option (Int32 × zD) := zobj w 6 a (zci (f_Sirens_has w D a x1) (fun v1 D2 => (if v1 = 0 then some ((0 : Int32), D2) else zref w 6 6 a (fun p3 => zast w D2 2 p3 x1 (vp_nar .boolean x2) (fun D4 => some ((1 : Int32), D4))))))
set_option maxHeartbeats 4000000 in
set_option maxRecDepth 100000 in
theorem c_Sirens_turnTo (z : zT) (D : zD) (a : Nat) (x1 : Int32) (x2 : Int32) : zM Y_Sirens_turnTo 2 0 0 (zqI z) (f_Sirens_turnTo z.2 D a x1 x2) [.ref a, .int x1, .int x2] z D := by
  refine zM_of (plainFor_of_name (by decide +kernel)) rfl (Nat.le_of_ble_eq_true rfl) (fun _ _ _ _ h => nomatch h.1) (fun K => ?_)
  unfold f_Sirens_turnTo
  refine z_aload_n (pc := 0) d_Sirens_turnTo_0 rfl 0 rfl ?_
  refine z_iload_n (pc := 1) d_Sirens_turnTo_1 rfl 1 rfl ?_
  refine z_callVi (pc := 2) [.int x1] lkV_Sirens_44 rfl (c_Sirens_has z D a x1) (by decide) rfl rfl (Nat.le_of_ble_eq_true rfl) d_Sirens_turnTo_2 (fun v1 D2 => ?_)
  refine z_if_ne (pc := 5) (tgt := 10) d_Sirens_turnTo_5 (by decide) ?_ ?_
  · refine z_iconst (pc := 8) d_Sirens_turnTo_8 ki_0 ?_
    exact z_zretK (pc := 9) d_Sirens_turnTo_9 rfl (by decide)
  · refine z_aload_n (pc := 10) d_Sirens_turnTo_10 rfl 0 rfl ?_
    refine z_getR (pc := 11) fl_Sirens_30 d_Sirens_turnTo_11 (fun p3 => ?_)
    refine z_iload_n (pc := 14) d_Sirens_turnTo_14 rfl 1 rfl ?_
    refine z_iload_n (pc := 15) d_Sirens_turnTo_15 rfl 2 rfl ?_
    refine z_bastore (pc := 16) d_Sirens_turnTo_16 (fun D4 => ?_)
    refine z_iconst (pc := 17) d_Sirens_turnTo_17 ki_1 ?_
    exact z_zretK (pc := 18) d_Sirens_turnTo_18 rfl (by decide)
theorem d_Sirens_goOn_0 : decode Y_Sirens_goOn.2.1 0 = .ok (.iconst (0), 1) := by decide +kernel
theorem d_Sirens_goOn_1 : decode Y_Sirens_goOn.2.1 1 = .ok (.istore_n 1, 1) := by decide +kernel
theorem d_Sirens_goOn_2 : decode Y_Sirens_goOn.2.1 2 = .ok (.iload_n 1, 1) := by decide +kernel
theorem d_Sirens_goOn_3 : decode Y_Sirens_goOn.2.1 3 = .ok (.aload_n 0, 1) := by decide +kernel
theorem d_Sirens_goOn_4 : decode Y_Sirens_goOn.2.1 4 = .ok (.getfield 34, 3) := by decide +kernel
theorem d_Sirens_goOn_7 : decode Y_Sirens_goOn.2.1 7 = .ok (.if_icmp .ge (35), 3) := by decide +kernel
theorem d_Sirens_goOn_10 : decode Y_Sirens_goOn.2.1 10 = .ok (.aload_n 0, 1) := by decide +kernel
theorem d_Sirens_goOn_11 : decode Y_Sirens_goOn.2.1 11 = .ok (.getfield 30, 3) := by decide +kernel
theorem d_Sirens_goOn_14 : decode Y_Sirens_goOn.2.1 14 = .ok (.iload_n 1, 1) := by decide +kernel
theorem d_Sirens_goOn_15 : decode Y_Sirens_goOn.2.1 15 = .ok (.baload, 1) := by decide +kernel
theorem d_Sirens_goOn_16 : decode Y_Sirens_goOn.2.1 16 = .ok (.ifCond .eq (20), 3) := by decide +kernel
theorem d_Sirens_goOn_19 : decode Y_Sirens_goOn.2.1 19 = .ok (.aload_n 0, 1) := by decide +kernel
theorem d_Sirens_goOn_20 : decode Y_Sirens_goOn.2.1 20 = .ok (.getfield 27, 3) := by decide +kernel
theorem d_Sirens_goOn_23 : decode Y_Sirens_goOn.2.1 23 = .ok (.iload_n 1, 1) := by decide +kernel
theorem d_Sirens_goOn_24 : decode Y_Sirens_goOn.2.1 24 = .ok (.aload_n 0, 1) := by decide +kernel
theorem d_Sirens_goOn_25 : decode Y_Sirens_goOn.2.1 25 = .ok (.iload_n 1, 1) := by decide +kernel
theorem d_Sirens_goOn_26 : decode Y_Sirens_goOn.2.1 26 = .ok (.aload_n 0, 1) := by decide +kernel
theorem d_Sirens_goOn_27 : decode Y_Sirens_goOn.2.1 27 = .ok (.getfield 27, 3) := by decide +kernel
theorem d_Sirens_goOn_30 : decode Y_Sirens_goOn.2.1 30 = .ok (.iload_n 1, 1) := by decide +kernel
theorem d_Sirens_goOn_31 : decode Y_Sirens_goOn.2.1 31 = .ok (.iaload, 1) := by decide +kernel
theorem d_Sirens_goOn_32 : decode Y_Sirens_goOn.2.1 32 = .ok (.invokevirtual 48, 3) := by decide +kernel
theorem d_Sirens_goOn_35 : decode Y_Sirens_goOn.2.1 35 = .ok (.iastore, 1) := by decide +kernel
theorem d_Sirens_goOn_36 : decode Y_Sirens_goOn.2.1 36 = .ok (.iinc 1 (1), 3) := by decide +kernel
theorem d_Sirens_goOn_39 : decode Y_Sirens_goOn.2.1 39 = .ok (.goto (-37), 3) := by decide +kernel
theorem d_Sirens_goOn_42 : decode Y_Sirens_goOn.2.1 42 = .ok (.return_, 1) := by decide +kernel
def f_Sirens_goOn (w : zW) (D : zD) (a : Nat) : Option (zD) := zjp (zlp (fun (_ : Int32) (_ : zD) => none) (fun (j2 : Int32 → zD → Option (zD)) (x1 : Int32) (D1 : zD) => zfld w D1 6 7 a (fun v2 => (if v2 ≤ x1 then some D1 else zjp (fun (x1 : Int32) (D3 : zD) => zlet (x1 + (1 : Int32)) (fun v4 => j2 v4 D3)) (fun j36 => zref w 6 6 a (fun p5 => zald w D1 2 p5 x1 (fun v6 => (if v6 = 0 then j36 x1 D1 else zref w 6 5 a (fun p7 => zref w 6 5 a (fun p8 => zald w D1 0 p8 x1 (fun v9 => zobj w 6 a (zci (f_Sirens_nextPlace w D1 a x1 v9) (fun v10 D11 => zast w D11 0 p7 x1 v10 (fun D12 => j36 x1 D12))))))))))))) zfuel) (fun j2 => j2 (0 : Int32) D)
set_option maxHeartbeats 4000000 in
set_option maxRecDepth 100000 in
theorem c_Sirens_goOn (z : zT) (D : zD) (a : Nat) : zM Y_Sirens_goOn 2 0 0 (zqV z) (f_Sirens_goOn z.2 D a) [.ref a] z D := by
  refine zM_of (plainFor_of_name (by decide +kernel)) rfl (Nat.le_of_ble_eq_true rfl) (fun _ _ _ _ h => nomatch h.1) (fun K => ?_)
  unfold f_Sirens_goOn
  refine z_jp (fun j2 : Int32 → zD → Option (zD) => ∀ (x1 : Int32) (D1 : zD), zGO K Y_Sirens_goOn 2 0 0 (zqV z) (j2 x1 D1) 0 0 z D1 2 [(0, .ref a), (1, .int x1)] []) (z_lp (fun j2 : Int32 → zD → Option (zD) => ∀ (x1 : Int32) (D1 : zD), zGO K Y_Sirens_goOn 2 0 0 (zqV z) (j2 x1 D1) 0 0 z D1 2 [(0, .ref a), (1, .int x1)] []) (fun _ _ => z_none) (fun j2 h2 x1 D1 => ?_) zfuel) (fun j2 h2 => ?_)
  · refine z_iload_n (pc := 2) d_Sirens_goOn_2 rfl 1 rfl ?_
    refine z_aload_n (pc := 3) d_Sirens_goOn_3 rfl 0 rfl ?_
    refine z_getI (pc := 4) fl_Sirens_34 d_Sirens_goOn_4 (fun v2 => ?_)
    refine z_icmp_ge (pc := 7) (tgt := 42) d_Sirens_goOn_7 (by decide) ?_ ?_
    · exact z_vret (pc := 42) d_Sirens_goOn_42 rfl
    · refine z_jp (fun j36 : Int32 → zD → Option (zD) => ∀ (x1 : Int32) (D3 : zD), zGO K Y_Sirens_goOn 2 0 0 (zqV z) (j36 x1 D3) 0 0 z D3 36 [(0, .ref a), (1, .int x1)] []) (fun x1 D3 => ?_) (fun j36 h36 => ?_)
      · refine z_iincL (pc := 36) d_Sirens_goOn_36 ki_1 1 rfl (by decide) (fun v4 => z_lvc (lv2 := [(1, .int v4), (0, .ref a)]) rfl ?_)
        refine z_goto (pc := 39) (tgt := 2) d_Sirens_goOn_39 (by decide) ?_
        exact z_sub [1, 0] rfl (h2 v4 D3)
      · refine z_aload_n (pc := 10) d_Sirens_goOn_10 rfl 0 rfl ?_
        refine z_getR (pc := 11) fl_Sirens_30 d_Sirens_goOn_11 (fun p5 => ?_)
        refine z_iload_n (pc := 14) d_Sirens_goOn_14 rfl 1 rfl ?_
        refine z_baload (pc := 15) d_Sirens_goOn_15 (fun v6 => ?_)
        refine z_if_eq (pc := 16) (tgt := 36) d_Sirens_goOn_16 (by decide) ?_ ?_
        · exact z_sub [0, 1] rfl (h36 x1 D1)
        · refine z_aload_n (pc := 19) d_Sirens_goOn_19 rfl 0 rfl ?_
          refine z_getR (pc := 20) fl_Sirens_27 d_Sirens_goOn_20 (fun p7 => ?_)
          refine z_iload_n (pc := 23) d_Sirens_goOn_23 rfl 1 rfl ?_
          refine z_aload_n (pc := 24) d_Sirens_goOn_24 rfl 0 rfl ?_
          refine z_iload_n (pc := 25) d_Sirens_goOn_25 rfl 1 rfl ?_
          refine z_aload_n (pc := 26) d_Sirens_goOn_26 rfl 0 rfl ?_
          refine z_getR (pc := 27) fl_Sirens_27 d_Sirens_goOn_27 (fun p8 => ?_)
          refine z_iload_n (pc := 30) d_Sirens_goOn_30 rfl 1 rfl ?_
          refine z_iaload (pc := 31) d_Sirens_goOn_31 (fun v9 => ?_)
          refine z_callVi (pc := 32) [.int x1, .int v9] lkV_Sirens_48 rfl (c_Sirens_nextPlace z D1 a x1 v9) (by decide) rfl rfl (Nat.le_of_ble_eq_true rfl) d_Sirens_goOn_32 (fun v10 D11 => ?_)
          refine z_iastore (pc := 35) d_Sirens_goOn_35 (fun D12 => ?_)
          exact z_sub [0, 1] rfl (h36 x1 D12)
  · refine z_iconst (pc := 0) d_Sirens_goOn_0 ki_0 ?_
    refine z_istore_n (pc := 1) d_Sirens_goOn_1 rfl (by decide) (lv' := [(1, .int (0 : Int32)), (0, .ref a)]) rfl ?_
    exact z_sub [1, 0] rfl (h2 (0 : Int32) D)
theorem d_Sirens_placeTickByTick_0 : decode Y_Sirens_placeTickByTick.2.1 0 = .ok (.aload_n 0, 1) := by decide +kernel
theorem d_Sirens_placeTickByTick_1 : decode Y_Sirens_placeTickByTick.2.1 1 = .ok (.getfield 27, 3) := by decide +kernel
theorem d_Sirens_placeTickByTick_4 : decode Y_Sirens_placeTickByTick.2.1 4 = .ok (.iload_n 1, 1) := by decide +kernel
theorem d_Sirens_placeTickByTick_5 : decode Y_Sirens_placeTickByTick.2.1 5 = .ok (.iaload, 1) := by decide +kernel
theorem d_Sirens_placeTickByTick_6 : decode Y_Sirens_placeTickByTick.2.1 6 = .ok (.istore_n 3, 1) := by decide +kernel
theorem d_Sirens_placeTickByTick_7 : decode Y_Sirens_placeTickByTick.2.1 7 = .ok (.iconst (0), 1) := by decide +kernel
theorem d_Sirens_placeTickByTick_8 : decode Y_Sirens_placeTickByTick.2.1 8 = .ok (.istore 4, 2) := by decide +kernel
theorem d_Sirens_placeTickByTick_10 : decode Y_Sirens_placeTickByTick.2.1 10 = .ok (.iload 4, 2) := by decide +kernel
theorem d_Sirens_placeTickByTick_12 : decode Y_Sirens_placeTickByTick.2.1 12 = .ok (.iload_n 2, 1) := by decide +kernel
theorem d_Sirens_placeTickByTick_13 : decode Y_Sirens_placeTickByTick.2.1 13 = .ok (.if_icmp .ge (25), 3) := by decide +kernel
theorem d_Sirens_placeTickByTick_16 : decode Y_Sirens_placeTickByTick.2.1 16 = .ok (.aload_n 0, 1) := by decide +kernel
theorem d_Sirens_placeTickByTick_17 : decode Y_Sirens_placeTickByTick.2.1 17 = .ok (.getfield 30, 3) := by decide +kernel
theorem d_Sirens_placeTickByTick_20 : decode Y_Sirens_placeTickByTick.2.1 20 = .ok (.iload_n 1, 1) := by decide +kernel
theorem d_Sirens_placeTickByTick_21 : decode Y_Sirens_placeTickByTick.2.1 21 = .ok (.baload, 1) := by decide +kernel
theorem d_Sirens_placeTickByTick_22 : decode Y_Sirens_placeTickByTick.2.1 22 = .ok (.ifCond .eq (16), 3) := by decide +kernel
theorem d_Sirens_placeTickByTick_25 : decode Y_Sirens_placeTickByTick.2.1 25 = .ok (.aload_n 0, 1) := by decide +kernel
theorem d_Sirens_placeTickByTick_26 : decode Y_Sirens_placeTickByTick.2.1 26 = .ok (.iload_n 1, 1) := by decide +kernel
theorem d_Sirens_placeTickByTick_27 : decode Y_Sirens_placeTickByTick.2.1 27 = .ok (.iload_n 3, 1) := by decide +kernel
theorem d_Sirens_placeTickByTick_28 : decode Y_Sirens_placeTickByTick.2.1 28 = .ok (.invokevirtual 48, 3) := by decide +kernel
theorem d_Sirens_placeTickByTick_31 : decode Y_Sirens_placeTickByTick.2.1 31 = .ok (.istore_n 3, 1) := by decide +kernel
theorem d_Sirens_placeTickByTick_32 : decode Y_Sirens_placeTickByTick.2.1 32 = .ok (.iinc 4 (1), 3) := by decide +kernel
theorem d_Sirens_placeTickByTick_35 : decode Y_Sirens_placeTickByTick.2.1 35 = .ok (.goto (-25), 3) := by decide +kernel
theorem d_Sirens_placeTickByTick_38 : decode Y_Sirens_placeTickByTick.2.1 38 = .ok (.iload_n 3, 1) := by decide +kernel
theorem d_Sirens_placeTickByTick_39 : decode Y_Sirens_placeTickByTick.2.1 39 = .ok (.ireturn, 1) := by decide +kernel
def f_Sirens_placeTickByTick (w : zW) (D : zD) (a : Nat) (x1 : Int32) (x2 : Int32) : Option (Int32 × zD) := zjp (zlp (fun (_ : Int32) (_ : Int32) (_ : zD) => none) (fun (j10 : Int32 → Int32 → zD → Option (Int32 × zD)) (x3 : Int32) (x4 : Int32) (D1 : zD) => zjp (fun (x3 : Int32) (D2 : zD) => some (x3, D2)) (fun j38 => (if x2 ≤ x4 then j38 x3 D1 else zref w 6 6 a (fun p3 => zald w D1 2 p3 x1 (fun v4 => (if v4 = 0 then j38 x3 D1 else zobj w 6 a (zci (f_Sirens_nextPlace w D1 a x1 x3) (fun v5 D6 => zlet (x4 + (1 : Int32)) (fun v7 => j10 v5 v7 D6))))))))) zfuel) (fun j10 => zref w 6 5 a (fun p8 => zald w D 0 p8 x1 (fun v9 => j10 v9 (0 : Int32) D)))
set_option maxHeartbeats 4000000 in
set_option maxRecDepth 100000 in
theorem c_Sirens_placeTickByTick (z : zT) (D : zD) (a : Nat) (x1 : Int32) (x2 : Int32) : zM Y_Sirens_placeTickByTick 2 0 0 (zqI z) (f_Sirens_placeTickByTick z.2 D a x1 x2) [.ref a, .int x1, .int x2] z D := by
  refine zM_of (plainFor_of_name (by decide +kernel)) rfl (Nat.le_of_ble_eq_true rfl) (fun _ _ _ _ h => nomatch h.1) (fun K => ?_)
  unfold f_Sirens_placeTickByTick
  refine z_jp (fun j10 : Int32 → Int32 → zD → Option (Int32 × zD) => ∀ (x3 : Int32) (x4 : Int32) (D1 : zD), zGO K Y_Sirens_placeTickByTick 2 0 0 (zqI z) (j10 x3 x4 D1) 0 0 z D1 10 [(0, .ref a), (1, .int x1), (2, .int x2), (3, .int x3), (4, .int x4)] []) (z_lp (fun j10 : Int32 → Int32 → zD → Option (Int32 × zD) => ∀ (x3 : Int32) (x4 : Int32) (D1 : zD), zGO K Y_Sirens_placeTickByTick 2 0 0 (zqI z) (j10 x3 x4 D1) 0 0 z D1 10 [(0, .ref a), (1, .int x1), (2, .int x2), (3, .int x3), (4, .int x4)] []) (fun _ _ _ => z_none) (fun j10 h10 x3 x4 D1 => ?_) zfuel) (fun j10 h10 => ?_)
  · refine z_jp (fun j38 : Int32 → zD → Option (Int32 × zD) => ∀ (x3 : Int32) (D2 : zD), zGO K Y_Sirens_placeTickByTick 2 0 0 (zqI z) (j38 x3 D2) 0 0 z D2 38 [(3, .int x3)] []) (fun x3 D2 => ?_) (fun j38 h38 => ?_)
    · refine z_iload_n (pc := 38) d_Sirens_placeTickByTick_38 rfl 0 rfl ?_
      exact z_iret (pc := 39) d_Sirens_placeTickByTick_39 rfl
    · refine z_iload (pc := 10) d_Sirens_placeTickByTick_10 4 rfl ?_
      refine z_iload_n (pc := 12) d_Sirens_placeTickByTick_12 rfl 2 rfl ?_
      refine z_icmp_ge (pc := 13) (tgt := 38) d_Sirens_placeTickByTick_13 (by decide) ?_ ?_
      · exact z_sub [3] rfl (h38 x3 D1)
      · refine z_aload_n (pc := 16) d_Sirens_placeTickByTick_16 rfl 0 rfl ?_
        refine z_getR (pc := 17) fl_Sirens_30 d_Sirens_placeTickByTick_17 (fun p3 => ?_)
        refine z_iload_n (pc := 20) d_Sirens_placeTickByTick_20 rfl 1 rfl ?_
        refine z_baload (pc := 21) d_Sirens_placeTickByTick_21 (fun v4 => ?_)
        refine z_if_eq (pc := 22) (tgt := 38) d_Sirens_placeTickByTick_22 (by decide) ?_ ?_
        · exact z_sub [3] rfl (h38 x3 D1)
        · refine z_aload_n (pc := 25) d_Sirens_placeTickByTick_25 rfl 0 rfl ?_
          refine z_iload_n (pc := 26) d_Sirens_placeTickByTick_26 rfl 1 rfl ?_
          refine z_iload_n (pc := 27) d_Sirens_placeTickByTick_27 rfl 3 rfl ?_
          refine z_callVi (pc := 28) [.int x1, .int x3] lkV_Sirens_48 rfl (c_Sirens_nextPlace z D1 a x1 x3) (by decide) rfl rfl (Nat.le_of_ble_eq_true rfl) d_Sirens_placeTickByTick_28 (fun v5 D6 => ?_)
          refine z_istore_n (pc := 31) d_Sirens_placeTickByTick_31 rfl (by decide) (lv' := [(3, .int v5), (0, .ref a), (1, .int x1), (2, .int x2), (4, .int x4)]) rfl ?_
          refine z_iincL (pc := 32) d_Sirens_placeTickByTick_32 ki_1 4 rfl (by decide) (fun v7 => z_lvc (lv2 := [(4, .int v7), (3, .int v5), (0, .ref a), (1, .int x1), (2, .int x2)]) rfl ?_)
          refine z_goto (pc := 35) (tgt := 10) d_Sirens_placeTickByTick_35 (by decide) ?_
          exact z_sub [2, 3, 4, 1, 0] rfl (h10 v5 v7 D6)
  · refine z_aload_n (pc := 0) d_Sirens_placeTickByTick_0 rfl 0 rfl ?_
    refine z_getR (pc := 1) fl_Sirens_27 d_Sirens_placeTickByTick_1 (fun p8 => ?_)
    refine z_iload_n (pc := 4) d_Sirens_placeTickByTick_4 rfl 1 rfl ?_
    refine z_iaload (pc := 5) d_Sirens_placeTickByTick_5 (fun v9 => ?_)
    refine z_istore_n (pc := 6) d_Sirens_placeTickByTick_6 rfl (by decide) (lv' := [(3, .int v9), (0, .ref a), (1, .int x1), (2, .int x2)]) rfl ?_
    refine z_iconst (pc := 7) d_Sirens_placeTickByTick_7 ki_0 ?_
    refine z_istore (pc := 8) d_Sirens_placeTickByTick_8 (by decide) (lv' := [(4, .int (0 : Int32)), (3, .int v9), (0, .ref a), (1, .int x1), (2, .int x2)]) rfl ?_
    exact z_sub [2, 3, 4, 1, 0] rfl (h10 v9 (0 : Int32) D)
theorem d_Sirens_placeAtOnce_0 : decode Y_Sirens_placeAtOnce.2.1 0 = .ok (.bipush (8), 2) := by decide +kernel
theorem d_Sirens_placeAtOnce_2 : decode Y_Sirens_placeAtOnce.2.1 2 = .ok (.aload_n 0, 1) := by decide +kernel
theorem d_Sirens_placeAtOnce_3 : decode Y_Sirens_placeAtOnce.2.1 3 = .ok (.getfield 18, 3) := by decide +kernel
theorem d_Sirens_placeAtOnce_6 : decode Y_Sirens_placeAtOnce.2.1 6 = .ok (.iload_n 1, 1) := by decide +kernel
theorem d_Sirens_placeAtOnce_7 : decode Y_Sirens_placeAtOnce.2.1 7 = .ok (.iaload, 1) := by decide +kernel
theorem d_Sirens_placeAtOnce_8 : decode Y_Sirens_placeAtOnce.2.1 8 = .ok (.imul, 1) := by decide +kernel
theorem d_Sirens_placeAtOnce_9 : decode Y_Sirens_placeAtOnce.2.1 9 = .ok (.istore_n 3, 1) := by decide +kernel
theorem d_Sirens_placeAtOnce_10 : decode Y_Sirens_placeAtOnce.2.1 10 = .ok (.aload_n 0, 1) := by decide +kernel
theorem d_Sirens_placeAtOnce_11 : decode Y_Sirens_placeAtOnce.2.1 11 = .ok (.getfield 30, 3) := by decide +kernel
theorem d_Sirens_placeAtOnce_14 : decode Y_Sirens_placeAtOnce.2.1 14 = .ok (.iload_n 1, 1) := by decide +kernel
theorem d_Sirens_placeAtOnce_15 : decode Y_Sirens_placeAtOnce.2.1 15 = .ok (.baload, 1) := by decide +kernel
theorem d_Sirens_placeAtOnce_16 : decode Y_Sirens_placeAtOnce.2.1 16 = .ok (.ifCond .eq (7), 3) := by decide +kernel
theorem d_Sirens_placeAtOnce_19 : decode Y_Sirens_placeAtOnce.2.1 19 = .ok (.iload_n 3, 1) := by decide +kernel
theorem d_Sirens_placeAtOnce_20 : decode Y_Sirens_placeAtOnce.2.1 20 = .ok (.ifCond .gt (10), 3) := by decide +kernel
theorem d_Sirens_placeAtOnce_23 : decode Y_Sirens_placeAtOnce.2.1 23 = .ok (.aload_n 0, 1) := by decide +kernel
theorem d_Sirens_placeAtOnce_24 : decode Y_Sirens_placeAtOnce.2.1 24 = .ok (.getfield 27, 3) := by decide +kernel
theorem d_Sirens_placeAtOnce_27 : decode Y_Sirens_placeAtOnce.2.1 27 = .ok (.iload_n 1, 1) := by decide +kernel
theorem d_Sirens_placeAtOnce_28 : decode Y_Sirens_placeAtOnce.2.1 28 = .ok (.iaload, 1) := by decide +kernel
theorem d_Sirens_placeAtOnce_29 : decode Y_Sirens_placeAtOnce.2.1 29 = .ok (.ireturn, 1) := by decide +kernel
theorem d_Sirens_placeAtOnce_30 : decode Y_Sirens_placeAtOnce.2.1 30 = .ok (.aload_n 0, 1) := by decide +kernel
theorem d_Sirens_placeAtOnce_31 : decode Y_Sirens_placeAtOnce.2.1 31 = .ok (.getfield 27, 3) := by decide +kernel
theorem d_Sirens_placeAtOnce_34 : decode Y_Sirens_placeAtOnce.2.1 34 = .ok (.iload_n 1, 1) := by decide +kernel
theorem d_Sirens_placeAtOnce_35 : decode Y_Sirens_placeAtOnce.2.1 35 = .ok (.iaload, 1) := by decide +kernel
theorem d_Sirens_placeAtOnce_36 : decode Y_Sirens_placeAtOnce.2.1 36 = .ok (.iload_n 2, 1) := by decide +kernel
theorem d_Sirens_placeAtOnce_37 : decode Y_Sirens_placeAtOnce.2.1 37 = .ok (.aload_n 0, 1) := by decide +kernel
theorem d_Sirens_placeAtOnce_38 : decode Y_Sirens_placeAtOnce.2.1 38 = .ok (.getfield 21, 3) := by decide +kernel
theorem d_Sirens_placeAtOnce_41 : decode Y_Sirens_placeAtOnce.2.1 41 = .ok (.iload_n 1, 1) := by decide +kernel
theorem d_Sirens_placeAtOnce_42 : decode Y_Sirens_placeAtOnce.2.1 42 = .ok (.iaload, 1) := by decide +kernel
theorem d_Sirens_placeAtOnce_43 : decode Y_Sirens_placeAtOnce.2.1 43 = .ok (.imul, 1) := by decide +kernel
theorem d_Sirens_placeAtOnce_44 : decode Y_Sirens_placeAtOnce.2.1 44 = .ok (.iadd, 1) := by decide +kernel
theorem d_Sirens_placeAtOnce_45 : decode Y_Sirens_placeAtOnce.2.1 45 = .ok (.iload_n 3, 1) := by decide +kernel
theorem d_Sirens_placeAtOnce_46 : decode Y_Sirens_placeAtOnce.2.1 46 = .ok (.invokestatic 52, 3) := by decide +kernel
theorem d_Sirens_placeAtOnce_49 : decode Y_Sirens_placeAtOnce.2.1 49 = .ok (.ireturn, 1) := by decide +kernel
def f_Sirens_placeAtOnce (w : zW) (D : zD) (a : Nat) (x1 : Int32) (x2 : Int32) : Option (Int32 × zD) := zjp (fun (D1 : zD) => zref w 6 5 a (fun p2 => zald w D1 0 p2 x1 (fun v3 => some (v3, D1)))) (fun j23 => zref w 6 2 a (fun p4 => zald w D 0 p4 x1 (fun v5 => zlet ((8 : Int32) * v5) (fun v6 => zref w 6 6 a (fun p7 => zald w D 2 p7 x1 (fun v8 => (if v8 = 0 then j23 D else (if 0 < v6 then zref w 6 5 a (fun p9 => zald w D 0 p9 x1 (fun v10 => zref w 6 3 a (fun p11 => zald w D 0 p11 x1 (fun v12 => zci (f_Math_floorMod w D (v10 + (x2 * v12)) v6) (fun v13 D14 => some (v13, D14)))))) else j23 D))))))))
set_option maxHeartbeats 4000000 in
set_option maxRecDepth 100000 in
theorem c_Sirens_placeAtOnce (z : zT) (D : zD) (a : Nat) (x1 : Int32) (x2 : Int32) : zM Y_Sirens_placeAtOnce 2 0 0 (zqI z) (f_Sirens_placeAtOnce z.2 D a x1 x2) [.ref a, .int x1, .int x2] z D := by
  refine zM_of (plainFor_of_name (by decide +kernel)) rfl (Nat.le_of_ble_eq_true rfl) (fun _ _ _ _ h => nomatch h.1) (fun K => ?_)
  unfold f_Sirens_placeAtOnce
  refine z_jp (fun j23 : zD → Option (Int32 × zD) => ∀ (D1 : zD), zGO K Y_Sirens_placeAtOnce 2 0 0 (zqI z) (j23  D1) 0 0 z D1 23 [(0, .ref a), (1, .int x1)] []) (fun  D1 => ?_) (fun j23 h23 => ?_)
  · refine z_aload_n (pc := 23) d_Sirens_placeAtOnce_23 rfl 0 rfl ?_
    refine z_getR (pc := 24) fl_Sirens_27 d_Sirens_placeAtOnce_24 (fun p2 => ?_)
    refine z_iload_n (pc := 27) d_Sirens_placeAtOnce_27 rfl 1 rfl ?_
    refine z_iaload (pc := 28) d_Sirens_placeAtOnce_28 (fun v3 => ?_)
    exact z_iret (pc := 29) d_Sirens_placeAtOnce_29 rfl
  · refine z_bipush (pc := 0) d_Sirens_placeAtOnce_0 kb_8 ?_
    refine z_aload_n (pc := 2) d_Sirens_placeAtOnce_2 rfl 0 rfl ?_
    refine z_getR (pc := 3) fl_Sirens_18 d_Sirens_placeAtOnce_3 (fun p4 => ?_)
    refine z_iload_n (pc := 6) d_Sirens_placeAtOnce_6 rfl 1 rfl ?_
    refine z_iaload (pc := 7) d_Sirens_placeAtOnce_7 (fun v5 => ?_)
    refine z_imul (pc := 8) d_Sirens_placeAtOnce_8 ?_
    refine z_leti (fun v6 => ?_)
    refine z_istore_n (pc := 9) d_Sirens_placeAtOnce_9 rfl (by decide) (lv' := [(3, .int v6), (0, .ref a), (1, .int x1), (2, .int x2)]) rfl ?_
    refine z_aload_n (pc := 10) d_Sirens_placeAtOnce_10 rfl 1 rfl ?_
    refine z_getR (pc := 11) fl_Sirens_30 d_Sirens_placeAtOnce_11 (fun p7 => ?_)
    refine z_iload_n (pc := 14) d_Sirens_placeAtOnce_14 rfl 2 rfl ?_
    refine z_baload (pc := 15) d_Sirens_placeAtOnce_15 (fun v8 => ?_)
    refine z_if_eq (pc := 16) (tgt := 23) d_Sirens_placeAtOnce_16 (by decide) ?_ ?_
    · exact z_sub [1, 2] rfl (h23 D)
    · refine z_iload_n (pc := 19) d_Sirens_placeAtOnce_19 rfl 0 rfl ?_
      refine z_if_gt (pc := 20) (tgt := 30) d_Sirens_placeAtOnce_20 (by decide) ?_ ?_
      · refine z_aload_n (pc := 30) d_Sirens_placeAtOnce_30 rfl 1 rfl ?_
        refine z_getR (pc := 31) fl_Sirens_27 d_Sirens_placeAtOnce_31 (fun p9 => ?_)
        refine z_iload_n (pc := 34) d_Sirens_placeAtOnce_34 rfl 2 rfl ?_
        refine z_iaload (pc := 35) d_Sirens_placeAtOnce_35 (fun v10 => ?_)
        refine z_iload_n (pc := 36) d_Sirens_placeAtOnce_36 rfl 3 rfl ?_
        refine z_aload_n (pc := 37) d_Sirens_placeAtOnce_37 rfl 1 rfl ?_
        refine z_getR (pc := 38) fl_Sirens_21 d_Sirens_placeAtOnce_38 (fun p11 => ?_)
        refine z_iload_n (pc := 41) d_Sirens_placeAtOnce_41 rfl 2 rfl ?_
        refine z_iaload (pc := 42) d_Sirens_placeAtOnce_42 (fun v12 => ?_)
        refine z_imul (pc := 43) d_Sirens_placeAtOnce_43 ?_
        refine z_iadd (pc := 44) d_Sirens_placeAtOnce_44 ?_
        refine z_iload_n (pc := 45) d_Sirens_placeAtOnce_45 rfl 0 rfl ?_
        refine z_callSi (pc := 46) [.int (v10 + (x2 * v12)), .int v6] lkS_Sirens_52 (c_Math_floorMod z D (v10 + (x2 * v12)) v6) (by decide) rfl rfl (Nat.le_of_ble_eq_true rfl) d_Sirens_placeAtOnce_46 (fun v13 D14 => ?_)
        exact z_iret (pc := 49) d_Sirens_placeAtOnce_49 rfl
      · exact z_sub [1, 2] rfl (h23 D)
theorem d_Sirens_nearestTo_0 : decode Y_Sirens_nearestTo.2.1 0 = .ok (.iconst (-1), 1) := by decide +kernel
theorem d_Sirens_nearestTo_1 : decode Y_Sirens_nearestTo.2.1 1 = .ok (.istore_n 3, 1) := by decide +kernel
theorem d_Sirens_nearestTo_2 : decode Y_Sirens_nearestTo.2.1 2 = .ok (.iconst (0), 1) := by decide +kernel
theorem d_Sirens_nearestTo_3 : decode Y_Sirens_nearestTo.2.1 3 = .ok (.istore 4, 2) := by decide +kernel
theorem d_Sirens_nearestTo_5 : decode Y_Sirens_nearestTo.2.1 5 = .ok (.iconst (0), 1) := by decide +kernel
theorem d_Sirens_nearestTo_6 : decode Y_Sirens_nearestTo.2.1 6 = .ok (.istore 5, 2) := by decide +kernel
theorem d_Sirens_nearestTo_8 : decode Y_Sirens_nearestTo.2.1 8 = .ok (.iload 5, 2) := by decide +kernel
theorem d_Sirens_nearestTo_10 : decode Y_Sirens_nearestTo.2.1 10 = .ok (.aload_n 0, 1) := by decide +kernel
theorem d_Sirens_nearestTo_11 : decode Y_Sirens_nearestTo.2.1 11 = .ok (.getfield 34, 3) := by decide +kernel
theorem d_Sirens_nearestTo_14 : decode Y_Sirens_nearestTo.2.1 14 = .ok (.if_icmp .ge (53), 3) := by decide +kernel
theorem d_Sirens_nearestTo_17 : decode Y_Sirens_nearestTo.2.1 17 = .ok (.aload_n 0, 1) := by decide +kernel
theorem d_Sirens_nearestTo_18 : decode Y_Sirens_nearestTo.2.1 18 = .ok (.iload 5, 2) := by decide +kernel
theorem d_Sirens_nearestTo_20 : decode Y_Sirens_nearestTo.2.1 20 = .ok (.invokevirtual 57, 3) := by decide +kernel
theorem d_Sirens_nearestTo_23 : decode Y_Sirens_nearestTo.2.1 23 = .ok (.iload_n 1, 1) := by decide +kernel
theorem d_Sirens_nearestTo_24 : decode Y_Sirens_nearestTo.2.1 24 = .ok (.isub, 1) := by decide +kernel
theorem d_Sirens_nearestTo_25 : decode Y_Sirens_nearestTo.2.1 25 = .ok (.invokestatic 61, 3) := by decide +kernel
theorem d_Sirens_nearestTo_28 : decode Y_Sirens_nearestTo.2.1 28 = .ok (.aload_n 0, 1) := by decide +kernel
theorem d_Sirens_nearestTo_29 : decode Y_Sirens_nearestTo.2.1 29 = .ok (.iload 5, 2) := by decide +kernel
theorem d_Sirens_nearestTo_31 : decode Y_Sirens_nearestTo.2.1 31 = .ok (.invokevirtual 64, 3) := by decide +kernel
theorem d_Sirens_nearestTo_34 : decode Y_Sirens_nearestTo.2.1 34 = .ok (.iload_n 2, 1) := by decide +kernel
theorem d_Sirens_nearestTo_35 : decode Y_Sirens_nearestTo.2.1 35 = .ok (.isub, 1) := by decide +kernel
theorem d_Sirens_nearestTo_36 : decode Y_Sirens_nearestTo.2.1 36 = .ok (.invokestatic 61, 3) := by decide +kernel
theorem d_Sirens_nearestTo_39 : decode Y_Sirens_nearestTo.2.1 39 = .ok (.iadd, 1) := by decide +kernel
theorem d_Sirens_nearestTo_40 : decode Y_Sirens_nearestTo.2.1 40 = .ok (.istore 6, 2) := by decide +kernel
theorem d_Sirens_nearestTo_42 : decode Y_Sirens_nearestTo.2.1 42 = .ok (.iload_n 3, 1) := by decide +kernel
theorem d_Sirens_nearestTo_43 : decode Y_Sirens_nearestTo.2.1 43 = .ok (.iconst (-1), 1) := by decide +kernel
theorem d_Sirens_nearestTo_44 : decode Y_Sirens_nearestTo.2.1 44 = .ok (.if_icmp .eq (10), 3) := by decide +kernel
theorem d_Sirens_nearestTo_47 : decode Y_Sirens_nearestTo.2.1 47 = .ok (.iload 6, 2) := by decide +kernel
theorem d_Sirens_nearestTo_49 : decode Y_Sirens_nearestTo.2.1 49 = .ok (.iload 4, 2) := by decide +kernel
theorem d_Sirens_nearestTo_51 : decode Y_Sirens_nearestTo.2.1 51 = .ok (.if_icmp .ge (10), 3) := by decide +kernel
theorem d_Sirens_nearestTo_54 : decode Y_Sirens_nearestTo.2.1 54 = .ok (.iload 5, 2) := by decide +kernel
theorem d_Sirens_nearestTo_56 : decode Y_Sirens_nearestTo.2.1 56 = .ok (.istore_n 3, 1) := by decide +kernel
theorem d_Sirens_nearestTo_57 : decode Y_Sirens_nearestTo.2.1 57 = .ok (.iload 6, 2) := by decide +kernel
theorem d_Sirens_nearestTo_59 : decode Y_Sirens_nearestTo.2.1 59 = .ok (.istore 4, 2) := by decide +kernel
theorem d_Sirens_nearestTo_61 : decode Y_Sirens_nearestTo.2.1 61 = .ok (.iinc 5 (1), 3) := by decide +kernel
theorem d_Sirens_nearestTo_64 : decode Y_Sirens_nearestTo.2.1 64 = .ok (.goto (-56), 3) := by decide +kernel
theorem d_Sirens_nearestTo_67 : decode Y_Sirens_nearestTo.2.1 67 = .ok (.iload_n 3, 1) := by decide +kernel
theorem d_Sirens_nearestTo_68 : decode Y_Sirens_nearestTo.2.1 68 = .ok (.ireturn, 1) := by decide +kernel
def f_Sirens_nearestTo (w : zW) (D : zD) (a : Nat) (x1 : Int32) (x2 : Int32) : Option (Int32 × zD) := zjp (zlp (fun (_ : Int32) (_ : Int32) (_ : Int32) (_ : zD) => none) (fun (j8 : Int32 → Int32 → Int32 → zD → Option (Int32 × zD)) (x3 : Int32) (x4 : Int32) (x5 : Int32) (D1 : zD) => zfld w D1 6 7 a (fun v2 => (if v2 ≤ x5 then some (x3, D1) else zjp (fun (x3 : Int32) (x4 : Int32) (x5 : Int32) (D3 : zD) => zlet (x5 + (1 : Int32)) (fun v4 => j8 x3 x4 v4 D3)) (fun j61 => zjp (fun (x5 : Int32) (x6 : Int32) (D5 : zD) => j61 x5 x6 x5 D5) (fun j54 => zobj w 6 a (zci (f_Sirens_placeX w D1 a x5) (fun v6 D7 => zci (f_Math_abs w D7 (v6 - x1)) (fun v8 D9 => zobj w 6 a (zci (f_Sirens_placeY w D9 a x5) (fun v10 D11 => zci (f_Math_abs w D11 (v10 - x2)) (fun v12 D13 => zlet (v8 + v12) (fun v14 => (if x3 = (-1 : Int32) then j54 x5 v14 D13 else (if x4 ≤ v14 then j61 x3 x4 x5 D13 else j54 x5 v14 D13)))))))))))))) zfuel) (fun j8 => j8 (-1 : Int32) (0 : Int32) (0 : Int32) D)
set_option maxHeartbeats 4000000 in
set_option maxRecDepth 100000 in
theorem c_Sirens_nearestTo (z : zT) (D : zD) (a : Nat) (x1 : Int32) (x2 : Int32) : zM Y_Sirens_nearestTo 2 0 0 (zqI z) (f_Sirens_nearestTo z.2 D a x1 x2) [.ref a, .int x1, .int x2] z D := by
  refine zM_of (plainFor_of_name (by decide +kernel)) rfl (Nat.le_of_ble_eq_true rfl) (fun _ _ _ _ h => nomatch h.1) (fun K => ?_)
  unfold f_Sirens_nearestTo
  refine z_jp (fun j8 : Int32 → Int32 → Int32 → zD → Option (Int32 × zD) => ∀ (x3 : Int32) (x4 : Int32) (x5 : Int32) (D1 : zD), zGO K Y_Sirens_nearestTo 2 0 0 (zqI z) (j8 x3 x4 x5 D1) 0 0 z D1 8 [(0, .ref a), (1, .int x1), (2, .int x2), (3, .int x3), (4, .int x4), (5, .int x5)] []) (z_lp (fun j8 : Int32 → Int32 → Int32 → zD → Option (Int32 × zD) => ∀ (x3 : Int32) (x4 : Int32) (x5 : Int32) (D1 : zD), zGO K Y_Sirens_nearestTo 2 0 0 (zqI z) (j8 x3 x4 x5 D1) 0 0 z D1 8 [(0, .ref a), (1, .int x1), (2, .int x2), (3, .int x3), (4, .int x4), (5, .int x5)] []) (fun _ _ _ _ => z_none) (fun j8 h8 x3 x4 x5 D1 => ?_) zfuel) (fun j8 h8 => ?_)
  · refine z_iload (pc := 8) d_Sirens_nearestTo_8 5 rfl ?_
    refine z_aload_n (pc := 10) d_Sirens_nearestTo_10 rfl 0 rfl ?_
    refine z_getI (pc := 11) fl_Sirens_34 d_Sirens_nearestTo_11 (fun v2 => ?_)
    refine z_icmp_ge (pc := 14) (tgt := 67) d_Sirens_nearestTo_14 (by decide) ?_ ?_
    · refine z_iload_n (pc := 67) d_Sirens_nearestTo_67 rfl 3 rfl ?_
      exact z_iret (pc := 68) d_Sirens_nearestTo_68 rfl
    · refine z_jp (fun j61 : Int32 → Int32 → Int32 → zD → Option (Int32 × zD) => ∀ (x3 : Int32) (x4 : Int32) (x5 : Int32) (D3 : zD), zGO K Y_Sirens_nearestTo 2 0 0 (zqI z) (j61 x3 x4 x5 D3) 0 0 z D3 61 [(0, .ref a), (1, .int x1), (2, .int x2), (3, .int x3), (4, .int x4), (5, .int x5)] []) (fun x3 x4 x5 D3 => ?_) (fun j61 h61 => ?_)
      · refine z_iincL (pc := 61) d_Sirens_nearestTo_61 ki_1 5 rfl (by decide) (fun v4 => z_lvc (lv2 := [(5, .int v4), (0, .ref a), (1, .int x1), (2, .int x2), (3, .int x3), (4, .int x4)]) rfl ?_)
        refine z_goto (pc := 64) (tgt := 8) d_Sirens_nearestTo_64 (by decide) ?_
        exact z_sub [1, 2, 3, 4, 5, 0] rfl (h8 x3 x4 v4 D3)
      · refine z_jp (fun j54 : Int32 → Int32 → zD → Option (Int32 × zD) => ∀ (x5 : Int32) (x6 : Int32) (D5 : zD), zGO K Y_Sirens_nearestTo 2 0 0 (zqI z) (j54 x5 x6 D5) 0 0 z D5 54 [(0, .ref a), (1, .int x1), (2, .int x2), (5, .int x5), (6, .int x6)] []) (fun x5 x6 D5 => ?_) (fun j54 h54 => ?_)
        · refine z_iload (pc := 54) d_Sirens_nearestTo_54 3 rfl ?_
          refine z_istore_n (pc := 56) d_Sirens_nearestTo_56 rfl (by decide) (lv' := [(3, .int x5), (0, .ref a), (1, .int x1), (2, .int x2), (5, .int x5), (6, .int x6)]) rfl ?_
          refine z_iload (pc := 57) d_Sirens_nearestTo_57 5 rfl ?_
          refine z_istore (pc := 59) d_Sirens_nearestTo_59 (by decide) (lv' := [(4, .int x6), (3, .int x5), (0, .ref a), (1, .int x1), (2, .int x2), (5, .int x5), (6, .int x6)]) rfl ?_
          exact z_sub [2, 3, 4, 1, 0, 5] rfl (h61 x5 x6 x5 D5)
        · refine z_aload_n (pc := 17) d_Sirens_nearestTo_17 rfl 0 rfl ?_
          refine z_iload (pc := 18) d_Sirens_nearestTo_18 5 rfl ?_
          refine z_callVi (pc := 20) [.int x5] lkV_Sirens_57 rfl (c_Sirens_placeX z D1 a x5) (by decide) rfl rfl (Nat.le_of_ble_eq_true rfl) d_Sirens_nearestTo_20 (fun v6 D7 => ?_)
          refine z_iload_n (pc := 23) d_Sirens_nearestTo_23 rfl 1 rfl ?_
          refine z_isub (pc := 24) d_Sirens_nearestTo_24 ?_
          refine z_callSi (pc := 25) [.int (v6 - x1)] lkS_Sirens_61 (c_Math_abs z D7 (v6 - x1)) (by decide) rfl rfl (Nat.le_of_ble_eq_true rfl) d_Sirens_nearestTo_25 (fun v8 D9 => ?_)
          refine z_aload_n (pc := 28) d_Sirens_nearestTo_28 rfl 0 rfl ?_
          refine z_iload (pc := 29) d_Sirens_nearestTo_29 5 rfl ?_
          refine z_callVi (pc := 31) [.int x5] lkV_Sirens_64 rfl (c_Sirens_placeY z D9 a x5) (by decide) rfl rfl (Nat.le_of_ble_eq_true rfl) d_Sirens_nearestTo_31 (fun v10 D11 => ?_)
          refine z_iload_n (pc := 34) d_Sirens_nearestTo_34 rfl 2 rfl ?_
          refine z_isub (pc := 35) d_Sirens_nearestTo_35 ?_
          refine z_callSi (pc := 36) [.int (v10 - x2)] lkS_Sirens_61 (c_Math_abs z D11 (v10 - x2)) (by decide) rfl rfl (Nat.le_of_ble_eq_true rfl) d_Sirens_nearestTo_36 (fun v12 D13 => ?_)
          refine z_iadd (pc := 39) d_Sirens_nearestTo_39 ?_
          refine z_leti (fun v14 => ?_)
          refine z_istore (pc := 40) d_Sirens_nearestTo_40 (by decide) (lv' := [(6, .int v14), (0, .ref a), (1, .int x1), (2, .int x2), (3, .int x3), (4, .int x4), (5, .int x5)]) rfl ?_
          refine z_iload_n (pc := 42) d_Sirens_nearestTo_42 rfl 4 rfl ?_
          refine z_iconst (pc := 43) d_Sirens_nearestTo_43 ki_m1 ?_
          refine z_icmp_eq (pc := 44) (tgt := 54) d_Sirens_nearestTo_44 (by decide) ?_ ?_
          · exact z_sub [1, 2, 3, 6, 0] rfl (h54 x5 v14 D13)
          · refine z_iload (pc := 47) d_Sirens_nearestTo_47 0 rfl ?_
            refine z_iload (pc := 49) d_Sirens_nearestTo_49 5 rfl ?_
            refine z_icmp_ge (pc := 51) (tgt := 61) d_Sirens_nearestTo_51 (by decide) ?_ ?_
            · exact z_sub [1, 2, 3, 4, 5, 6] rfl (h61 x3 x4 x5 D13)
            · exact z_sub [1, 2, 3, 6, 0] rfl (h54 x5 v14 D13)
  · refine z_iconst (pc := 0) d_Sirens_nearestTo_0 ki_m1 ?_
    refine z_istore_n (pc := 1) d_Sirens_nearestTo_1 rfl (by decide) (lv' := [(3, .int (-1 : Int32)), (0, .ref a), (1, .int x1), (2, .int x2)]) rfl ?_
    refine z_iconst (pc := 2) d_Sirens_nearestTo_2 ki_0 ?_
    refine z_istore (pc := 3) d_Sirens_nearestTo_3 (by decide) (lv' := [(4, .int (0 : Int32)), (3, .int (-1 : Int32)), (0, .ref a), (1, .int x1), (2, .int x2)]) rfl ?_
    refine z_iconst (pc := 5) d_Sirens_nearestTo_5 ki_0 ?_
    refine z_istore (pc := 6) d_Sirens_nearestTo_6 (by decide) (lv' := [(5, .int (0 : Int32)), (4, .int (0 : Int32)), (3, .int (-1 : Int32)), (0, .ref a), (1, .int x1), (2, .int x2)]) rfl ?_
    exact z_sub [3, 4, 5, 2, 1, 0] rfl (h8 (-1 : Int32) (0 : Int32) (0 : Int32) D)
