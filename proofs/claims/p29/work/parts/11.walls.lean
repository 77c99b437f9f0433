theorem kb_40 : (Int8.ofInt (40)).toInt32 = (40 : Int32) := by decide +kernel
theorem kb_m40 : (Int8.ofInt (-40)).toInt32 = (-40 : Int32) := by decide +kernel
theorem ki_3 : Int32.ofInt (3) = (3 : Int32) := by decide +kernel
theorem ki_m1 : Int32.ofInt (-1) = (-1 : Int32) := by decide +kernel
def Y_Walls_init : zY := (⟨"SirenFair$Walls", "<init>", "()V"⟩, prog_8_method_1_code, 1, none, [])
theorem w_ml_Walls_3 : Cond.methodLink "SirenFair$Walls" 3 Lib.objectInit ∈ zWd := zin 165 (by decide +kernel) rfl
theorem w_oi1 : Cond.instanceMethod Lib.objectInit ∈ zWd := zin 40 (by decide +kernel) rfl
theorem w_oi2 : Cond.code Lib.objectInit ⟨#[0xb1]⟩ 1 none ∈ zWd := zin 41 (by decide +kernel) rfl
theorem w_ac_boolean : Cond.arrayClass .boolean ∈ zWd := zin 117 (by decide +kernel) rfl
theorem w_fl_Walls_11 : Cond.fieldLink "SirenFair$Walls" 11 "SirenFair$Walls" "upright" "[Z" ∈ zWd := zin 166 (by decide +kernel) rfl
theorem in_Walls : ∀ w ∈ u_ws "SirenFair$Walls" T_Walls 3, w ∈ zWd := by decide +kernel
theorem zc_Walls : zcls 7 "SirenFair$Walls" T_Walls 3 ty_Walls := ⟨rfl, in_Walls, nm_Walls, tyok_Walls⟩
theorem fl_Walls_11 : zfl "SirenFair$Walls" 11 7 0 (.array (.boolean)) true := ⟨_, _, _, _, zc_Walls, by decide, w_fl_Walls_11, rfl, rfl, rfl⟩
theorem w_ac_int : Cond.arrayClass .int ∈ zWd := zin 69 (by decide +kernel) rfl
theorem w_fl_Walls_15 : Cond.fieldLink "SirenFair$Walls" 15 "SirenFair$Walls" "at" "[I" ∈ zWd := zin 169 (by decide +kernel) rfl
theorem fl_Walls_15 : zfl "SirenFair$Walls" 15 7 1 (.array (.int)) true := ⟨_, _, _, _, zc_Walls, by decide, w_fl_Walls_15, rfl, rfl, rfl⟩
def Y_Walls_copyFrom : zY := (⟨"SirenFair$Walls", "copyFrom", "(LSirenFair$Walls;)V"⟩, prog_8_method_2_code, 2, none, [])
theorem w_fl_Walls_19 : Cond.fieldLink "SirenFair$Walls" 19 "SirenFair$Walls" "count" "I" ∈ zWd := zin 172 (by decide +kernel) rfl
theorem fl_Walls_19 : zfl "SirenFair$Walls" 19 7 2 (.int) false := ⟨_, _, _, _, zc_Walls, by decide, w_fl_Walls_19, rfl, rfl, rfl⟩
theorem w_ml_Walls_23 : Cond.methodLink "SirenFair$Walls" 23 arraycopyName ∈ zWd := zin 460 (by decide +kernel) rfl
theorem w_acn : Cond.native arraycopyName ∈ zWd := zin 450 (by decide +kernel) rfl
theorem w_acs : Cond.static arraycopyName ∈ zWd := zin 449 (by decide +kernel) rfl
theorem w_ini_System : Cond.initialized "java/lang/System" ∈ zWd := zin 30 (by decide +kernel) rfl
def Y_Walls_has : zY := (⟨"SirenFair$Walls", "has", "(I)Z"⟩, prog_8_method_3_code, 2, some .boolean, [])
def Y_Walls_add : zY := (⟨"SirenFair$Walls", "add", "(ZI)I"⟩, prog_8_method_4_code, 3, some .int, [])
def Y_Walls_isBetween : zY := (⟨"SirenFair$Walls", "isBetween", "(IIIII)Z"⟩, prog_8_method_5_code, 8, some .boolean, [])
def Y_Hearers_init : zY := (⟨"SirenFair$Hearers", "<init>", "()V"⟩, prog_5_method_1_code, 1, none, [])
theorem w_ml_Hearers_3 : Cond.methodLink "SirenFair$Hearers" 3 Lib.objectInit ∈ zWd := zin 123 (by decide +kernel) rfl
theorem w_fl_Hearers_11 : Cond.fieldLink "SirenFair$Hearers" 11 "SirenFair$Hearers" "x" "[I" ∈ zWd := zin 124 (by decide +kernel) rfl
theorem in_Hearers : ∀ w ∈ u_ws "SirenFair$Hearers" T_Hearers 8, w ∈ zWd := by decide +kernel
theorem zc_Hearers : zcls 4 "SirenFair$Hearers" T_Hearers 8 ty_Hearers := ⟨rfl, in_Hearers, nm_Hearers, tyok_Hearers⟩
theorem fl_Hearers_11 : zfl "SirenFair$Hearers" 11 4 0 (.array (.int)) true := ⟨_, _, _, _, zc_Hearers, by decide, w_fl_Hearers_11, rfl, rfl, rfl⟩
theorem w_fl_Hearers_15 : Cond.fieldLink "SirenFair$Hearers" 15 "SirenFair$Hearers" "y" "[I" ∈ zWd := zin 127 (by decide +kernel) rfl
theorem fl_Hearers_15 : zfl "SirenFair$Hearers" 15 4 1 (.array (.int)) true := ⟨_, _, _, _, zc_Hearers, by decide, w_fl_Hearers_15, rfl, rfl, rfl⟩
theorem w_fl_Hearers_18 : Cond.fieldLink "SirenFair$Hearers" 18 "SirenFair$Hearers" "vx" "[I" ∈ zWd := zin 130 (by decide +kernel) rfl
theorem fl_Hearers_18 : zfl "SirenFair$Hearers" 18 4 2 (.array (.int)) true := ⟨_, _, _, _, zc_Hearers, by decide, w_fl_Hearers_18, rfl, rfl, rfl⟩
theorem w_fl_Hearers_21 : Cond.fieldLink "SirenFair$Hearers" 21 "SirenFair$Hearers" "vy" "[I" ∈ zWd := zin 132 (by decide +kernel) rfl
theorem fl_Hearers_21 : zfl "SirenFair$Hearers" 21 4 3 (.array (.int)) true := ⟨_, _, _, _, zc_Hearers, by decide, w_fl_Hearers_21, rfl, rfl, rfl⟩
theorem w_fl_Hearers_24 : Cond.fieldLink "SirenFair$Hearers" 24 "SirenFair$Hearers" "beats" "[I" ∈ zWd := zin 134 (by decide +kernel) rfl
theorem fl_Hearers_24 : zfl "SirenFair$Hearers" 24 4 4 (.array (.int)) true := ⟨_, _, _, _, zc_Hearers, by decide, w_fl_Hearers_24, rfl, rfl, rfl⟩
theorem w_fl_Hearers_27 : Cond.fieldLink "SirenFair$Hearers" 27 "SirenFair$Hearers" "sirensNow" "[I" ∈ zWd := zin 136 (by decide +kernel) rfl
theorem fl_Hearers_27 : zfl "SirenFair$Hearers" 27 4 5 (.array (.int)) true := ⟨_, _, _, _, zc_Hearers, by decide, w_fl_Hearers_27, rfl, rfl, rfl⟩
def Y_Hearers_copyFrom : zY := (⟨"SirenFair$Hearers", "copyFrom", "(LSirenFair$Hearers;)V"⟩, prog_5_method_2_code, 2, none, [])
theorem w_fl_Hearers_30 : Cond.fieldLink "SirenFair$Hearers" 30 "SirenFair$Hearers" "count" "I" ∈ zWd := zin 138 (by decide +kernel) rfl
theorem fl_Hearers_30 : zfl "SirenFair$Hearers" 30 4 6 (.int) false := ⟨_, _, _, _, zc_Hearers, by decide, w_fl_Hearers_30, rfl, rfl, rfl⟩
theorem w_fl_Hearers_34 : Cond.fieldLink "SirenFair$Hearers" 34 "SirenFair$Hearers" "allBeats" "I" ∈ zWd := zin 141 (by decide +kernel) rfl
theorem fl_Hearers_34 : zfl "SirenFair$Hearers" 34 4 7 (.int) false := ⟨_, _, _, _, zc_Hearers, by decide, w_fl_Hearers_34, rfl, rfl, rfl⟩
theorem w_ml_Hearers_37 : Cond.methodLink "SirenFair$Hearers" 37 arraycopyName ∈ zWd := zin 455 (by decide +kernel) rfl
def Y_Hearers_has : zY := (⟨"SirenFair$Hearers", "has", "(I)Z"⟩, prog_5_method_3_code, 2, some .boolean, [])
def Y_Hearers_add : zY := (⟨"SirenFair$Hearers", "add", "(IIII)I"⟩, prog_5_method_4_code, 5, some .int, [])
def Y_Hearers_isOutside : zY := (⟨"SirenFair$Hearers", "isOutside", "(I)Z"⟩, prog_5_method_7_code, 1, some .boolean, [])
def Y_Hearers_send : zY := (⟨"SirenFair$Hearers", "send", "(III)Z"⟩, prog_5_method_5_code, 4, some .boolean, [])
theorem w_c_Hearers_has : Cond.code Y_Hearers_has.1 Y_Hearers_has.2.1 Y_Hearers_has.2.2.1 Y_Hearers_has.2.2.2.1 ∈ zWd := zin 733 (by decide +kernel) rfl
theorem w_ini_Hearers : Cond.initialized "SirenFair$Hearers" ∈ zWd := zin 20 (by decide +kernel) rfl
theorem lk_Hearers_has : zlk Y_Hearers_has 1 := ⟨w_c_Hearers_has, w_ini_Hearers, by decide +kernel, by decide +kernel, by decide⟩
theorem w_ml_Hearers_43 : Cond.methodLink "SirenFair$Hearers" 43 Y_Hearers_has.1 ∈ zWd := zin 796 (by decide +kernel) rfl
theorem w_im_Hearers_has : Cond.instanceMethod Y_Hearers_has.1 ∈ zWd := zin 731 (by decide +kernel) rfl
theorem w_sel_Hearers_has : Cond.selects "SirenFair$Hearers" Y_Hearers_has.1 Y_Hearers_has.1 ∈ zWd := zin 732 (by decide +kernel) rfl
theorem lkV_Hearers_43 : zlkV "SirenFair$Hearers" 43 Y_Hearers_has 1 := ⟨lk_Hearers_has, w_ml_Hearers_43, w_im_Hearers_has, w_sel_Hearers_has⟩
def Y_Hearers_walkOn : zY := (⟨"SirenFair$Hearers", "walkOn", "()V"⟩, prog_5_method_6_code, 4, none, [])
theorem w_c_Math_min : Cond.code Y_Math_min.1 Y_Math_min.2.1 Y_Math_min.2.2.1 Y_Math_min.2.2.2.1 ∈ zWd := zin 605 (by decide +kernel) rfl
theorem w_ini_Math : Cond.initialized "java/lang/Math" ∈ zWd := zin 31 (by decide +kernel) rfl
theorem lk_Math_min : zlk Y_Math_min 2 := ⟨w_c_Math_min, w_ini_Math, by decide +kernel, by decide +kernel, by decide⟩
theorem w_ml_Hearers_50 : Cond.methodLink "SirenFair$Hearers" 50 Y_Math_min.1 ∈ zWd := zin 603 (by decide +kernel) rfl
theorem w_st_Math_min : Cond.static Y_Math_min.1 ∈ zWd := zin 604 (by decide +kernel) rfl
theorem lkS_Hearers_50 : zlkS "SirenFair$Hearers" 50 Y_Math_min 2 := ⟨lk_Math_min, w_ml_Hearers_50, w_st_Math_min⟩
theorem w_c_Math_max : Cond.code Y_Math_max.1 Y_Math_max.2.1 Y_Math_max.2.2.1 Y_Math_max.2.2.2.1 ∈ zWd := zin 608 (by decide +kernel) rfl
theorem lk_Math_max : zlk Y_Math_max 2 := ⟨w_c_Math_max, w_ini_Math, by decide +kernel, by decide +kernel, by decide⟩
theorem w_ml_Hearers_56 : Cond.methodLink "SirenFair$Hearers" 56 Y_Math_max.1 ∈ zWd := zin 606 (by decide +kernel) rfl
theorem w_st_Math_max : Cond.static Y_Math_max.1 ∈ zWd := zin 607 (by decide +kernel) rfl
theorem lkS_Hearers_56 : zlkS "SirenFair$Hearers" 56 Y_Math_max 2 := ⟨lk_Math_max, w_ml_Hearers_56, w_st_Math_max⟩
theorem w_c_Hearers_isOutside : Cond.code Y_Hearers_isOutside.1 Y_Hearers_isOutside.2.1 Y_Hearers_isOutside.2.2.1 Y_Hearers_isOutside.2.2.2.1 ∈ zWd := zin 602 (by decide +kernel) rfl
theorem lk_Hearers_isOutside : zlk Y_Hearers_isOutside 1 := ⟨w_c_Hearers_isOutside, w_ini_Hearers, by decide +kernel, by decide +kernel, by decide⟩
theorem w_ml_Hearers_47 : Cond.methodLink "SirenFair$Hearers" 47 Y_Hearers_isOutside.1 ∈ zWd := zin 600 (by decide +kernel) rfl
theorem w_st_Hearers_isOutside : Cond.static Y_Hearers_isOutside.1 ∈ zWd := zin 601 (by decide +kernel) rfl
theorem lkS_Hearers_47 : zlkS "SirenFair$Hearers" 47 Y_Hearers_isOutside 1 := ⟨lk_Hearers_isOutside, w_ml_Hearers_47, w_st_Hearers_isOutside⟩
def Y_Hearers_wayTo : zY := (⟨"SirenFair$Hearers", "wayTo", "(III)I"⟩, prog_5_method_8_code, 4, some .int, [])
theorem w_c_Math_abs : Cond.code Y_Math_abs.1 Y_Math_abs.2.1 Y_Math_abs.2.2.1 Y_Math_abs.2.2.2.1 ∈ zWd := zin 652 (by decide +kernel) rfl
theorem lk_Math_abs : zlk Y_Math_abs 1 := ⟨w_c_Math_abs, w_ini_Math, by decide +kernel, by decide +kernel, by decide⟩
theorem w_ml_Hearers_59 : Cond.methodLink "SirenFair$Hearers" 59 Y_Math_abs.1 ∈ zWd := zin 650 (by decide +kernel) rfl
theorem w_st_Math_abs : Cond.static Y_Math_abs.1 ∈ zWd := zin 651 (by decide +kernel) rfl
theorem lkS_Hearers_59 : zlkS "SirenFair$Hearers" 59 Y_Math_abs 1 := ⟨lk_Math_abs, w_ml_Hearers_59, w_st_Math_abs⟩
def Y_Hearers_countBeats : zY := (⟨"SirenFair$Hearers", "countBeats", "()V"⟩, prog_5_method_9_code, 2, none, [])
theorem w_c_Integer_bitCount : Cond.code Y_Integer_bitCount.1 Y_Integer_bitCount.2.1 Y_Integer_bitCount.2.2.1 Y_Integer_bitCount.2.2.2.1 ∈ zWd := zin 682 (by decide +kernel) rfl
theorem w_ini_Integer : Cond.initialized "java/lang/Integer" ∈ zWd := zin 32 (by decide +kernel) rfl
theorem lk_Integer_bitCount : zlk Y_Integer_bitCount 1 := ⟨w_c_Integer_bitCount, w_ini_Integer, by decide +kernel, by decide +kernel, by decide⟩
theorem w_ml_Hearers_63 : Cond.methodLink "SirenFair$Hearers" 63 Y_Integer_bitCount.1 ∈ zWd := zin 680 (by decide +kernel) rfl
theorem w_st_Integer_bitCount : Cond.static Y_Integer_bitCount.1 ∈ zWd := zin 681 (by decide +kernel) rfl
theorem lkS_Hearers_63 : zlkS "SirenFair$Hearers" 63 Y_Integer_bitCount 1 := ⟨lk_Integer_bitCount, w_ml_Hearers_63, w_st_Integer_bitCount⟩
theorem d_Walls_init_0 : decode Y_Walls_init.2.1 0 = .ok (.aload_n 0, 1) := by decide +kernel
theorem d_Walls_init_1 : decode Y_Walls_init.2.1 1 = .ok (.invokespecial 3, 3) := by decide +kernel
theorem d_Walls_init_4 : decode Y_Walls_init.2.1 4 = .ok (.aload_n 0, 1) := by decide +kernel
theorem d_Walls_init_5 : decode Y_Walls_init.2.1 5 = .ok (.iconst (3), 1) := by decide +kernel
theorem d_Walls_init_6 : decode Y_Walls_init.2.1 6 = .ok (.newarray .boolean, 2) := by decide +kernel
theorem d_Walls_init_8 : decode Y_Walls_init.2.1 8 = .ok (.putfield 11, 3) := by decide +kernel
theorem d_Walls_init_11 : decode Y_Walls_init.2.1 11 = .ok (.aload_n 0, 1) := by decide +kernel
theorem d_Walls_init_12 : decode Y_Walls_init.2.1 12 = .ok (.iconst (3), 1) := by decide +kernel
theorem d_Walls_init_13 : decode Y_Walls_init.2.1 13 = .ok (.newarray .int, 2) := by decide +kernel
theorem d_Walls_init_15 : decode Y_Walls_init.2.1 15 = .ok (.putfield 15, 3) := by decide +kernel
theorem d_Walls_init_18 : decode Y_Walls_init.2.1 18 = .ok (.return_, 1) := by decide +kernel
def f_Walls_init (z : zT) (D : zD) (a : Nat) : Option (zT × zD) := znew z D (.inl (2, 3)) (fun q1 z2 D3 => zputR z2 7 0 a q1 (fun z4 => znew z4 D3 (.inl (0, 3)) (fun q5 z6 D7 => zputR z6 7 1 a q5 (fun z8 => some (z8, D7)))))
set_option maxHeartbeats 4000000 in
set_option maxRecDepth 100000 in
theorem c_Walls_init (z : zT) (D : zD) (a : Nat) : zM Y_Walls_init 1 2 6 zqC (f_Walls_init z D a) [.ref a] z D := by
  refine zM_of (plainFor_of_name (by decide +kernel)) rfl (Nat.le_of_ble_eq_true rfl) (fun _ _ _ _ h => nomatch h.1) (fun K => ?_)
  unfold f_Walls_init
  refine z_aload_n (pc := 0) d_Walls_init_0 rfl 0 rfl ?_
  refine z_objInit (pc := 1) w_ml_Walls_3 w_oi1 w_oi2 (by decide) (Nat.le_of_ble_eq_true rfl) d_Walls_init_1 ?_
  refine z_aload_n (pc := 4) d_Walls_init_4 rfl 0 rfl ?_
  refine z_iconst (pc := 5) d_Walls_init_5 ki_3 ?_
  refine z_newB (pc := 6) (kc2 := 1) (ks2 := 3) w_ac_boolean (by decide) (by decide) (Nat.le_of_ble_eq_true rfl) (by decide) (by decide) d_Walls_init_6 (fun q1 z2 D3 => ?_)
  refine z_putR (pc := 8) fl_Walls_11 rfl (fun _ _ _ h => by cases h; rfl) (Or.inr ⟨_, rfl⟩) d_Walls_init_8 (fun z4 => ?_)
  refine z_aload_n (pc := 11) d_Walls_init_11 rfl 0 rfl ?_
  refine z_iconst (pc := 12) d_Walls_init_12 ki_3 ?_
  refine z_newI (pc := 13) (kc2 := 0) (ks2 := 0) w_ac_int (by decide) (by decide) (Nat.le_of_ble_eq_true rfl) (by decide) (by decide) d_Walls_init_13 (fun q5 z6 D7 => ?_)
  refine z_putR (pc := 15) fl_Walls_15 rfl (fun _ _ _ h => by cases h; rfl) (Or.inr ⟨_, rfl⟩) d_Walls_init_15 (fun z8 => ?_)
  exact z_cret (pc := 18) d_Walls_init_18 rfl
theorem d_Walls_copyFrom_0 : decode Y_Walls_copyFrom.2.1 0 = .ok (.aload_n 0, 1) := by decide +kernel
theorem d_Walls_copyFrom_1 : decode Y_Walls_copyFrom.2.1 1 = .ok (.aload_n 1, 1) := by decide +kernel
theorem d_Walls_copyFrom_2 : decode Y_Walls_copyFrom.2.1 2 = .ok (.getfield 19, 3) := by decide +kernel
theorem d_Walls_copyFrom_5 : decode Y_Walls_copyFrom.2.1 5 = .ok (.putfield 19, 3) := by decide +kernel
theorem d_Walls_copyFrom_8 : decode Y_Walls_copyFrom.2.1 8 = .ok (.aload_n 1, 1) := by decide +kernel
theorem d_Walls_copyFrom_9 : decode Y_Walls_copyFrom.2.1 9 = .ok (.getfield 11, 3) := by decide +kernel
theorem d_Walls_copyFrom_12 : decode Y_Walls_copyFrom.2.1 12 = .ok (.iconst (0), 1) := by decide +kernel
theorem d_Walls_copyFrom_13 : decode Y_Walls_copyFrom.2.1 13 = .ok (.aload_n 0, 1) := by decide +kernel
theorem d_Walls_copyFrom_14 : decode Y_Walls_copyFrom.2.1 14 = .ok (.getfield 11, 3) := by decide +kernel
theorem d_Walls_copyFrom_17 : decode Y_Walls_copyFrom.2.1 17 = .ok (.iconst (0), 1) := by decide +kernel
theorem d_Walls_copyFrom_18 : decode Y_Walls_copyFrom.2.1 18 = .ok (.iconst (3), 1) := by decide +kernel
theorem d_Walls_copyFrom_19 : decode Y_Walls_copyFrom.2.1 19 = .ok (.invokestatic 23, 3) := by decide +kernel
theorem d_Walls_copyFrom_22 : decode Y_Walls_copyFrom.2.1 22 = .ok (.aload_n 1, 1) := by decide +kernel
theorem d_Walls_copyFrom_23 : decode Y_Walls_copyFrom.2.1 23 = .ok (.getfield 15, 3) := by decide +kernel
theorem d_Walls_copyFrom_26 : decode Y_Walls_copyFrom.2.1 26 = .ok (.iconst (0), 1) := by decide +kernel
theorem d_Walls_copyFrom_27 : decode Y_Walls_copyFrom.2.1 27 = .ok (.aload_n 0, 1) := by decide +kernel
theorem d_Walls_copyFrom_28 : decode Y_Walls_copyFrom.2.1 28 = .ok (.getfield 15, 3) := by decide +kernel
theorem d_Walls_copyFrom_31 : decode Y_Walls_copyFrom.2.1 31 = .ok (.iconst (0), 1) := by decide +kernel
theorem d_Walls_copyFrom_32 : decode Y_Walls_copyFrom.2.1 32 = .ok (.iconst (3), 1) := by decide +kernel
theorem d_Walls_copyFrom_33 : decode Y_Walls_copyFrom.2.1 33 = .ok (.invokestatic 23, 3) := by decide +kernel
theorem d_Walls_copyFrom_36 : decode Y_Walls_copyFrom.2.1 36 = .ok (.return_, 1) := by decide +kernel
def f_Walls_copyFrom (w : zW) (D : zD) (a : Nat) (r1 : Nat) : Option (zD) := zfld w D 7 2 r1 (fun v1 => zput w D 7 2 a v1 (fun D2 => zref w 7 0 r1 (fun p3 => zref w 7 0 a (fun p4 => zcpy w D2 2 p3 (0 : Int32) p4 (0 : Int32) (3 : Int32) (fun D5 => zref w 7 1 r1 (fun p6 => zref w 7 1 a (fun p7 => zcpy w D5 0 p6 (0 : Int32) p7 (0 : Int32) (3 : Int32) (fun D8 => some D8))))))))
set_option maxHeartbeats 4000000 in
set_option maxRecDepth 100000 in
theorem c_Walls_copyFrom (z : zT) (D : zD) (a : Nat) (r1 : Nat) : zM Y_Walls_copyFrom 1 0 0 (zqV z) (f_Walls_copyFrom z.2 D a r1) [.ref a, .ref r1] z D := by
  refine zM_of (plainFor_of_name (by decide +kernel)) rfl (Nat.le_of_ble_eq_true rfl) (fun _ _ _ _ h => nomatch h.1) (fun K => ?_)
  unfold f_Walls_copyFrom
  refine z_aload_n (pc := 0) d_Walls_copyFrom_0 rfl 0 rfl ?_
  refine z_aload_n (pc := 1) d_Walls_copyFrom_1 rfl 1 rfl ?_
  refine z_getI (pc := 2) fl_Walls_19 d_Walls_copyFrom_2 (fun v1 => ?_)
  refine z_putI (pc := 5) fl_Walls_19 d_Walls_copyFrom_5 (fun D2 => ?_)
  refine z_aload_n (pc := 8) d_Walls_copyFrom_8 rfl 1 rfl ?_
  refine z_getR (pc := 9) fl_Walls_11 d_Walls_copyFrom_9 (fun p3 => ?_)
  refine z_iconst (pc := 12) d_Walls_copyFrom_12 ki_0 ?_
  refine z_aload_n (pc := 13) d_Walls_copyFrom_13 rfl 0 rfl ?_
  refine z_getR (pc := 14) fl_Walls_11 d_Walls_copyFrom_14 (fun p4 => ?_)
  refine z_iconst (pc := 17) d_Walls_copyFrom_17 ki_0 ?_
  refine z_iconst (pc := 18) d_Walls_copyFrom_18 ki_3 ?_
  refine z_copyi (pc := 19) w_ml_Walls_23 w_acn w_acs w_ini_System 2 (by decide) (by decide) (Nat.le_of_ble_eq_true rfl) d_Walls_copyFrom_19 (fun D5 => ?_)
  refine z_aload_n (pc := 22) d_Walls_copyFrom_22 rfl 1 rfl ?_
  refine z_getR (pc := 23) fl_Walls_15 d_Walls_copyFrom_23 (fun p6 => ?_)
  refine z_iconst (pc := 26) d_Walls_copyFrom_26 ki_0 ?_
  refine z_aload_n (pc := 27) d_Walls_copyFrom_27 rfl 0 rfl ?_
  refine z_getR (pc := 28) fl_Walls_15 d_Walls_copyFrom_28 (fun p7 => ?_)
  refine z_iconst (pc := 31) d_Walls_copyFrom_31 ki_0 ?_
  refine z_iconst (pc := 32) d_Walls_copyFrom_32 ki_3 ?_
  refine z_copyi (pc := 33) w_ml_Walls_23 w_acn w_acs w_ini_System 0 (by decide) (by decide) (Nat.le_of_ble_eq_true rfl) d_Walls_copyFrom_33 (fun D8 => ?_)
  exact z_vret (pc := 36) d_Walls_copyFrom_36 rfl
theorem d_Walls_has_0 : decode Y_Walls_has.2.1 0 = .ok (.iload_n 1, 1) := by decide +kernel
theorem d_Walls_has_1 : decode Y_Walls_has.2.1 1 = .ok (.ifCond .lt (15), 3) := by decide +kernel
theorem d_Walls_has_4 : decode Y_Walls_has.2.1 4 = .ok (.iload_n 1, 1) := by decide +kernel
theorem d_Walls_has_5 : decode Y_Walls_has.2.1 5 = .ok (.aload_n 0, 1) := by decide +kernel
theorem d_Walls_has_6 : decode Y_Walls_has.2.1 6 = .ok (.getfield 19, 3) := by decide +kernel
theorem d_Walls_has_9 : decode Y_Walls_has.2.1 9 = .ok (.if_icmp .ge (7), 3) := by decide +kernel
theorem d_Walls_has_12 : decode Y_Walls_has.2.1 12 = .ok (.iconst (1), 1) := by decide +kernel
theorem d_Walls_has_13 : decode Y_Walls_has.2.1 13 = .ok (.goto (4), 3) := by decide +kernel
theorem d_Walls_has_16 : decode Y_Walls_has.2.1 16 = .ok (.iconst (0), 1) := by decide +kernel
theorem d_Walls_has_17 : decode Y_Walls_has.2.1 17 = .ok (.ireturn, 1) := by decide +kernel
def f_Walls_has (w : zW) (D : zD) (a : Nat) (x1 : Int32) : Option (Int32 × zD) := zjp (fun (s0 : Int32) (D1 : zD) => zchk (s0 = 0 ∨ s0 = 1) (some (s0, D1))) (fun j17 => zjp (fun (D2 : zD) => j17 (0 : Int32) D2) (fun j16 => (if x1 < 0 then j16 D else zfld w D 7 2 a (fun v3 => (if v3 ≤ x1 then j16 D else j17 (1 : Int32) D)))))
set_option maxHeartbeats 4000000 in
set_option maxRecDepth 100000 in
theorem c_Walls_has (z : zT) (D : zD) (a : Nat) (x1 : Int32) : zM Y_Walls_has 1 0 0 (zqI z) (f_Walls_has z.2 D a x1) [.ref a, .int x1] z D := by
  refine zM_of (plainFor_of_name (by decide +kernel)) rfl (Nat.le_of_ble_eq_true rfl) (fun _ _ _ _ h => nomatch h.1) (fun K => ?_)
  unfold f_Walls_has
  refine z_jp (fun j17 : Int32 → zD → Option (Int32 × zD) => ∀ (s0 : Int32) (D1 : zD), zGO K Y_Walls_has 1 0 0 (zqI z) (j17 s0 D1) 0 0 z D1 17 [] [.int s0]) (fun s0 D1 => ?_) (fun j17 h17 => ?_)
  · exact z_zret (pc := 17) d_Walls_has_17 rfl
  · refine z_jp (fun j16 : zD → Option (Int32 × zD) => ∀ (D2 : zD), zGO K Y_Walls_has 1 0 0 (zqI z) (j16  D2) 0 0 z D2 16 [] []) (fun  D2 => ?_) (fun j16 h16 => ?_)
    · refine z_iconst (pc := 16) d_Walls_has_16 ki_0 ?_
      exact z_sub [] rfl (h17 (0 : Int32) D2)
    · refine z_iload_n (pc := 0) d_Walls_has_0 rfl 1 rfl ?_
      refine z_if_lt (pc := 1) (tgt := 16) d_Walls_has_1 (by decide) ?_ ?_
      · exact z_sub [] rfl (h16 D)
      · refine z_iload_n (pc := 4) d_Walls_has_4 rfl 1 rfl ?_
        refine z_aload_n (pc := 5) d_Walls_has_5 rfl 0 rfl ?_
        refine z_getI (pc := 6) fl_Walls_19 d_Walls_has_6 (fun v3 => ?_)
        refine z_icmp_ge (pc := 9) (tgt := 16) d_Walls_has_9 (by decide) ?_ ?_
        · exact z_sub [] rfl (h16 D)
        · refine z_iconst (pc := 12) d_Walls_has_12 ki_1 ?_
          refine z_goto (pc := 13) (tgt := 17) d_Walls_has_13 (by decide) ?_
          exact z_sub [] rfl (h17 (1 : Int32) D)
theorem d_Walls_add_0 : decode Y_Walls_add.2.1 0 = .ok (.aload_n 0, 1) := by decide +kernel
theorem d_Walls_add_1 : decode Y_Walls_add.2.1 1 = .ok (.getfield 19, 3) := by decide +kernel
theorem d_Walls_add_4 : decode Y_Walls_add.2.1 4 = .ok (.iconst (3), 1) := by decide +kernel
theorem d_Walls_add_5 : decode Y_Walls_add.2.1 5 = .ok (.if_icmp .lt (5), 3) := by decide +kernel
theorem d_Walls_add_8 : decode Y_Walls_add.2.1 8 = .ok (.iconst (-1), 1) := by decide +kernel
theorem d_Walls_add_9 : decode Y_Walls_add.2.1 9 = .ok (.ireturn, 1) := by decide +kernel
theorem d_Walls_add_10 : decode Y_Walls_add.2.1 10 = .ok (.aload_n 0, 1) := by decide +kernel
theorem d_Walls_add_11 : decode Y_Walls_add.2.1 11 = .ok (.getfield 11, 3) := by decide +kernel
theorem d_Walls_add_14 : decode Y_Walls_add.2.1 14 = .ok (.aload_n 0, 1) := by decide +kernel
theorem d_Walls_add_15 : decode Y_Walls_add.2.1 15 = .ok (.getfield 19, 3) := by decide +kernel
theorem d_Walls_add_18 : decode Y_Walls_add.2.1 18 = .ok (.iload_n 1, 1) := by decide +kernel
theorem d_Walls_add_19 : decode Y_Walls_add.2.1 19 = .ok (.bastore, 1) := by decide +kernel
theorem d_Walls_add_20 : decode Y_Walls_add.2.1 20 = .ok (.aload_n 0, 1) := by decide +kernel
theorem d_Walls_add_21 : decode Y_Walls_add.2.1 21 = .ok (.getfield 15, 3) := by decide +kernel
theorem d_Walls_add_24 : decode Y_Walls_add.2.1 24 = .ok (.aload_n 0, 1) := by decide +kernel
theorem d_Walls_add_25 : decode Y_Walls_add.2.1 25 = .ok (.getfield 19, 3) := by decide +kernel
theorem d_Walls_add_28 : decode Y_Walls_add.2.1 28 = .ok (.iload_n 2, 1) := by decide +kernel
theorem d_Walls_add_29 : decode Y_Walls_add.2.1 29 = .ok (.iastore, 1) := by decide +kernel
theorem d_Walls_add_30 : decode Y_Walls_add.2.1 30 = .ok (.aload_n 0, 1) := by decide +kernel
theorem d_Walls_add_31 : decode Y_Walls_add.2.1 31 = .ok (.dup, 1) := by decide +kernel
theorem d_Walls_add_32 : decode Y_Walls_add.2.1 32 = .ok (.getfield 19, 3) := by decide +kernel
theorem d_Walls_add_35 : decode Y_Walls_add.2.1 35 = .ok (.iconst (1), 1) := by decide +kernel
theorem d_Walls_add_36 : decode Y_Walls_add.2.1 36 = .ok (.iadd, 1) := by decide +kernel
theorem d_Walls_add_37 : decode Y_Walls_add.2.1 37 = .ok (.putfield 19, 3) := by decide +kernel
theorem d_Walls_add_40 : decode Y_Walls_add.2.1 40 = .ok (.aload_n 0, 1) := by decide +kernel
theorem d_Walls_add_41 : decode Y_Walls_add.2.1 41 = .ok (.getfield 19, 3) := by decide +kernel
theorem d_Walls_add_44 : decode Y_Walls_add.2.1 44 = .ok (.iconst (1), 1) := by decide +kernel
theorem d_Walls_add_45 : decode Y_Walls_add.2.1 45 = .ok (.isub, 1) := by decide +kernel
theorem d_Walls_add_46 : decode Y_Walls_add.2.1 46 = .ok (.ireturn, 1) := by decide +kernel
def f_Walls_add (w : zW) (D : zD) (a : Nat) (x1 : Int32) (x2 : Int32) : Option (Int32 × zD) := zfld w D 7 2 a (fun v1 => (if v1 < (3 : Int32) then zref w 7 0 a (fun p2 => zfld w D 7 2 a (fun v3 => zast w D 2 p2 v3 (vp_nar .boolean x1) (fun D4 => zref w 7 1 a (fun p5 => zfld w D4 7 2 a (fun v6 => zast w D4 0 p5 v6 x2 (fun D7 => zfld w D7 7 2 a (fun v8 => zput w D7 7 2 a (v8 + (1 : Int32)) (fun D9 => zfld w D9 7 2 a (fun v10 => some (v10 - (1 : Int32), D9)))))))))) else some ((-1 : Int32), D)))
set_option maxHeartbeats 4000000 in
set_option maxRecDepth 100000 in
theorem c_Walls_add (z : zT) (D : zD) (a : Nat) (x1 : Int32) (x2 : Int32) : zM Y_Walls_add 1 0 0 (zqI z) (f_Walls_add z.2 D a x1 x2) [.ref a, .int x1, .int x2] z D := by
  refine zM_of (plainFor_of_name (by decide +kernel)) rfl (Nat.le_of_ble_eq_true rfl) (fun _ _ _ _ h => nomatch h.1) (fun K => ?_)
  unfold f_Walls_add
  refine z_aload_n (pc := 0) d_Walls_add_0 rfl 0 rfl ?_
  refine z_getI (pc := 1) fl_Walls_19 d_Walls_add_1 (fun v1 => ?_)
  refine z_iconst (pc := 4) d_Walls_add_4 ki_3 ?_
  refine z_icmp_lt (pc := 5) (tgt := 10) d_Walls_add_5 (by decide) ?_ ?_
  · refine z_aload_n (pc := 10) d_Walls_add_10 rfl 0 rfl ?_
    refine z_getR (pc := 11) fl_Walls_11 d_Walls_add_11 (fun p2 => ?_)
    refine z_aload_n (pc := 14) d_Walls_add_14 rfl 0 rfl ?_
    refine z_getI (pc := 15) fl_Walls_19 d_Walls_add_15 (fun v3 => ?_)
    refine z_iload_n (pc := 18) d_Walls_add_18 rfl 1 rfl ?_
    refine z_bastore (pc := 19) d_Walls_add_19 (fun D4 => ?_)
    refine z_aload_n (pc := 20) d_Walls_add_20 rfl 0 rfl ?_
    refine z_getR (pc := 21) fl_Walls_15 d_Walls_add_21 (fun p5 => ?_)
    refine z_aload_n (pc := 24) d_Walls_add_24 rfl 0 rfl ?_
    refine z_getI (pc := 25) fl_Walls_19 d_Walls_add_25 (fun v6 => ?_)
    refine z_iload_n (pc := 28) d_Walls_add_28 rfl 2 rfl ?_
    refine z_iastore (pc := 29) d_Walls_add_29 (fun D7 => ?_)
    refine z_aload_n (pc := 30) d_Walls_add_30 rfl 0 rfl ?_
    refine z_dup (pc := 31) d_Walls_add_31 rfl ?_
    refine z_getI (pc := 32) fl_Walls_19 d_Walls_add_32 (fun v8 => ?_)
    refine z_iconst (pc := 35) d_Walls_add_35 ki_1 ?_
    refine z_iadd (pc := 36) d_Walls_add_36 ?_
    refine z_putI (pc := 37) fl_Walls_19 d_Walls_add_37 (fun D9 => ?_)
    refine z_aload_n (pc := 40) d_Walls_add_40 rfl 0 rfl ?_
    refine z_getI (pc := 41) fl_Walls_19 d_Walls_add_41 (fun v10 => ?_)
    refine z_iconst (pc := 44) d_Walls_add_44 ki_1 ?_
    refine z_isub (pc := 45) d_Walls_add_45 ?_
    exact z_iret (pc := 46) d_Walls_add_46 rfl
  · refine z_iconst (pc := 8) d_Walls_add_8 ki_m1 ?_
    exact z_iret (pc := 9) d_Walls_add_9 rfl
theorem d_Walls_isBetween_0 : decode Y_Walls_isBetween.2.1 0 = .ok (.iload_n 1, 1) := by decide +kernel
theorem d_Walls_isBetween_1 : decode Y_Walls_isBetween.2.1 1 = .ok (.ifCond .lt (11), 3) := by decide +kernel
theorem d_Walls_isBetween_4 : decode Y_Walls_isBetween.2.1 4 = .ok (.iload_n 1, 1) := by decide +kernel
theorem d_Walls_isBetween_5 : decode Y_Walls_isBetween.2.1 5 = .ok (.aload_n 0, 1) := by decide +kernel
theorem d_Walls_isBetween_6 : decode Y_Walls_isBetween.2.1 6 = .ok (.getfield 19, 3) := by decide +kernel
theorem d_Walls_isBetween_9 : decode Y_Walls_isBetween.2.1 9 = .ok (.if_icmp .lt (5), 3) := by decide +kernel
theorem d_Walls_isBetween_12 : decode Y_Walls_isBetween.2.1 12 = .ok (.iconst (0), 1) := by decide +kernel
theorem d_Walls_isBetween_13 : decode Y_Walls_isBetween.2.1 13 = .ok (.ireturn, 1) := by decide +kernel
theorem d_Walls_isBetween_14 : decode Y_Walls_isBetween.2.1 14 = .ok (.aload_n 0, 1) := by decide +kernel
theorem d_Walls_isBetween_15 : decode Y_Walls_isBetween.2.1 15 = .ok (.getfield 11, 3) := by decide +kernel
theorem d_Walls_isBetween_18 : decode Y_Walls_isBetween.2.1 18 = .ok (.iload_n 1, 1) := by decide +kernel
theorem d_Walls_isBetween_19 : decode Y_Walls_isBetween.2.1 19 = .ok (.baload, 1) := by decide +kernel
theorem d_Walls_isBetween_20 : decode Y_Walls_isBetween.2.1 20 = .ok (.ifCond .eq (7), 3) := by decide +kernel
theorem d_Walls_isBetween_23 : decode Y_Walls_isBetween.2.1 23 = .ok (.iload_n 2, 1) := by decide +kernel
theorem d_Walls_isBetween_24 : decode Y_Walls_isBetween.2.1 24 = .ok (.goto (4), 3) := by decide +kernel
theorem d_Walls_isBetween_27 : decode Y_Walls_isBetween.2.1 27 = .ok (.iload_n 3, 1) := by decide +kernel
theorem d_Walls_isBetween_28 : decode Y_Walls_isBetween.2.1 28 = .ok (.istore 6, 2) := by decide +kernel
theorem d_Walls_isBetween_30 : decode Y_Walls_isBetween.2.1 30 = .ok (.aload_n 0, 1) := by decide +kernel
theorem d_Walls_isBetween_31 : decode Y_Walls_isBetween.2.1 31 = .ok (.getfield 11, 3) := by decide +kernel
theorem d_Walls_isBetween_34 : decode Y_Walls_isBetween.2.1 34 = .ok (.iload_n 1, 1) := by decide +kernel
theorem d_Walls_isBetween_35 : decode Y_Walls_isBetween.2.1 35 = .ok (.baload, 1) := by decide +kernel
theorem d_Walls_isBetween_36 : decode Y_Walls_isBetween.2.1 36 = .ok (.ifCond .eq (8), 3) := by decide +kernel
theorem d_Walls_isBetween_39 : decode Y_Walls_isBetween.2.1 39 = .ok (.iload 4, 2) := by decide +kernel
theorem d_Walls_isBetween_41 : decode Y_Walls_isBetween.2.1 41 = .ok (.goto (5), 3) := by decide +kernel
theorem d_Walls_isBetween_44 : decode Y_Walls_isBetween.2.1 44 = .ok (.iload 5, 2) := by decide +kernel
theorem d_Walls_isBetween_46 : decode Y_Walls_isBetween.2.1 46 = .ok (.istore 7, 2) := by decide +kernel
theorem d_Walls_isBetween_48 : decode Y_Walls_isBetween.2.1 48 = .ok (.iload 6, 2) := by decide +kernel
theorem d_Walls_isBetween_50 : decode Y_Walls_isBetween.2.1 50 = .ok (.aload_n 0, 1) := by decide +kernel
theorem d_Walls_isBetween_51 : decode Y_Walls_isBetween.2.1 51 = .ok (.getfield 15, 3) := by decide +kernel
theorem d_Walls_isBetween_54 : decode Y_Walls_isBetween.2.1 54 = .ok (.iload_n 1, 1) := by decide +kernel
theorem d_Walls_isBetween_55 : decode Y_Walls_isBetween.2.1 55 = .ok (.iaload, 1) := by decide +kernel
theorem d_Walls_isBetween_56 : decode Y_Walls_isBetween.2.1 56 = .ok (.if_icmp .ge (14), 3) := by decide +kernel
theorem d_Walls_isBetween_59 : decode Y_Walls_isBetween.2.1 59 = .ok (.iload 7, 2) := by decide +kernel
theorem d_Walls_isBetween_61 : decode Y_Walls_isBetween.2.1 61 = .ok (.aload_n 0, 1) := by decide +kernel
theorem d_Walls_isBetween_62 : decode Y_Walls_isBetween.2.1 62 = .ok (.getfield 15, 3) := by decide +kernel
theorem d_Walls_isBetween_65 : decode Y_Walls_isBetween.2.1 65 = .ok (.iload_n 1, 1) := by decide +kernel
theorem d_Walls_isBetween_66 : decode Y_Walls_isBetween.2.1 66 = .ok (.iaload, 1) := by decide +kernel
theorem d_Walls_isBetween_67 : decode Y_Walls_isBetween.2.1 67 = .ok (.if_icmp .gt (25), 3) := by decide +kernel
theorem d_Walls_isBetween_70 : decode Y_Walls_isBetween.2.1 70 = .ok (.iload 6, 2) := by decide +kernel
theorem d_Walls_isBetween_72 : decode Y_Walls_isBetween.2.1 72 = .ok (.aload_n 0, 1) := by decide +kernel
theorem d_Walls_isBetween_73 : decode Y_Walls_isBetween.2.1 73 = .ok (.getfield 15, 3) := by decide +kernel
theorem d_Walls_isBetween_76 : decode Y_Walls_isBetween.2.1 76 = .ok (.iload_n 1, 1) := by decide +kernel
theorem d_Walls_isBetween_77 : decode Y_Walls_isBetween.2.1 77 = .ok (.iaload, 1) := by decide +kernel
theorem d_Walls_isBetween_78 : decode Y_Walls_isBetween.2.1 78 = .ok (.if_icmp .le (18), 3) := by decide +kernel
theorem d_Walls_isBetween_81 : decode Y_Walls_isBetween.2.1 81 = .ok (.iload 7, 2) := by decide +kernel
theorem d_Walls_isBetween_83 : decode Y_Walls_isBetween.2.1 83 = .ok (.aload_n 0, 1) := by decide +kernel
theorem d_Walls_isBetween_84 : decode Y_Walls_isBetween.2.1 84 = .ok (.getfield 15, 3) := by decide +kernel
theorem d_Walls_isBetween_87 : decode Y_Walls_isBetween.2.1 87 = .ok (.iload_n 1, 1) := by decide +kernel
theorem d_Walls_isBetween_88 : decode Y_Walls_isBetween.2.1 88 = .ok (.iaload, 1) := by decide +kernel
theorem d_Walls_isBetween_89 : decode Y_Walls_isBetween.2.1 89 = .ok (.if_icmp .ge (7), 3) := by decide +kernel
theorem d_Walls_isBetween_92 : decode Y_Walls_isBetween.2.1 92 = .ok (.iconst (1), 1) := by decide +kernel
theorem d_Walls_isBetween_93 : decode Y_Walls_isBetween.2.1 93 = .ok (.goto (4), 3) := by decide +kernel
theorem d_Walls_isBetween_96 : decode Y_Walls_isBetween.2.1 96 = .ok (.iconst (0), 1) := by decide +kernel
theorem d_Walls_isBetween_97 : decode Y_Walls_isBetween.2.1 97 = .ok (.ireturn, 1) := by decide +kernel
def f_Walls_isBetween (w : zW) (D : zD) (a : Nat) (x1 : Int32) (x2 : Int32) (x3 : Int32) (x4 : Int32) (x5 : Int32) : Option (Int32 × zD) := zjp (fun (D1 : zD) => some ((0 : Int32), D1)) (fun j12 => (if x1 < 0 then j12 D else zfld w D 7 2 a (fun v2 => (if x1 < v2 then zjp (fun (s0 : Int32) (D3 : zD) => zjp (fun (x6 : Int32) (s0 : Int32) (D4 : zD) => zjp (fun (s0 : Int32) (D5 : zD) => zchk (s0 = 0 ∨ s0 = 1) (some (s0, D5))) (fun j97 => zjp (fun (D6 : zD) => j97 (1 : Int32) D6) (fun j92 => zjp (fun (x6 : Int32) (x7 : Int32) (D7 : zD) => zjp (fun (D8 : zD) => j97 (0 : Int32) D8) (fun j96 => zref w 7 1 a (fun p9 => zald w D7 0 p9 x1 (fun v10 => (if x6 ≤ v10 then j96 D7 else zref w 7 1 a (fun p11 => zald w D7 0 p11 x1 (fun v12 => (if v12 ≤ x7 then j96 D7 else j92 D7)))))))) (fun j70 => zref w 7 1 a (fun p13 => zald w D4 0 p13 x1 (fun v14 => (if v14 ≤ x6 then j70 x6 s0 D4 else zref w 7 1 a (fun p15 => zald w D4 0 p15 x1 (fun v16 => (if v16 < s0 then j92 D4 else j70 x6 s0 D4)))))))))) (fun j46 => zref w 7 0 a (fun p17 => zald w D3 2 p17 x1 (fun v18 => (if v18 = 0 then j46 s0 x5 D3 else j46 s0 x4 D3))))) (fun j28 => zref w 7 0 a (fun p19 => zald w D 2 p19 x1 (fun v20 => (if v20 = 0 then j28 x3 D else j28 x2 D)))) else j12 D))))
set_option maxHeartbeats 4000000 in
set_option maxRecDepth 100000 in
theorem c_Walls_isBetween (z : zT) (D : zD) (a : Nat) (x1 : Int32) (x2 : Int32) (x3 : Int32) (x4 : Int32) (x5 : Int32) : zM Y_Walls_isBetween 1 0 0 (zqI z) (f_Walls_isBetween z.2 D a x1 x2 x3 x4 x5) [.ref a, .int x1, .int x2, .int x3, .int x4, .int x5] z D := by
  refine zM_of (plainFor_of_name (by decide +kernel)) rfl (Nat.le_of_ble_eq_true rfl) (fun _ _ _ _ h => nomatch h.1) (fun K => ?_)
  unfold f_Walls_isBetween
  refine z_jp (fun j12 : zD → Option (Int32 × zD) => ∀ (D1 : zD), zGO K Y_Walls_isBetween 1 0 0 (zqI z) (j12  D1) 0 0 z D1 12 [] []) (fun  D1 => ?_) (fun j12 h12 => ?_)
  · refine z_iconst (pc := 12) d_Walls_isBetween_12 ki_0 ?_
    exact z_zretK (pc := 13) d_Walls_isBetween_13 rfl (by decide)
  · refine z_iload_n (pc := 0) d_Walls_isBetween_0 rfl 1 rfl ?_
    refine z_if_lt (pc := 1) (tgt := 12) d_Walls_isBetween_1 (by decide) ?_ ?_
    · exact z_sub [] rfl (h12 D)
    · refine z_iload_n (pc := 4) d_Walls_isBetween_4 rfl 1 rfl ?_
      refine z_aload_n (pc := 5) d_Walls_isBetween_5 rfl 0 rfl ?_
      refine z_getI (pc := 6) fl_Walls_19 d_Walls_isBetween_6 (fun v2 => ?_)
      refine z_icmp_lt (pc := 9) (tgt := 14) d_Walls_isBetween_9 (by decide) ?_ ?_
      · refine z_jp (fun j28 : Int32 → zD → Option (Int32 × zD) => ∀ (s0 : Int32) (D3 : zD), zGO K Y_Walls_isBetween 1 0 0 (zqI z) (j28 s0 D3) 0 0 z D3 28 [(0, .ref a), (1, .int x1), (4, .int x4), (5, .int x5)] [.int s0]) (fun s0 D3 => ?_) (fun j28 h28 => ?_)
        · refine z_jp (fun j46 : Int32 → Int32 → zD → Option (Int32 × zD) => ∀ (x6 : Int32) (s0 : Int32) (D4 : zD), zGO K Y_Walls_isBetween 1 0 0 (zqI z) (j46 x6 s0 D4) 0 0 z D4 46 [(0, .ref a), (1, .int x1), (6, .int x6)] [.int s0]) (fun x6 s0 D4 => ?_) (fun j46 h46 => ?_)
          · refine z_jp (fun j97 : Int32 → zD → Option (Int32 × zD) => ∀ (s0 : Int32) (D5 : zD), zGO K Y_Walls_isBetween 1 0 0 (zqI z) (j97 s0 D5) 0 0 z D5 97 [] [.int s0]) (fun s0 D5 => ?_) (fun j97 h97 => ?_)
            · exact z_zret (pc := 97) d_Walls_isBetween_97 rfl
            · refine z_jp (fun j92 : zD → Option (Int32 × zD) => ∀ (D6 : zD), zGO K Y_Walls_isBetween 1 0 0 (zqI z) (j92  D6) 0 0 z D6 92 [] []) (fun  D6 => ?_) (fun j92 h92 => ?_)
              · refine z_iconst (pc := 92) d_Walls_isBetween_92 ki_1 ?_
                refine z_goto (pc := 93) (tgt := 97) d_Walls_isBetween_93 (by decide) ?_
                exact z_sub [] rfl (h97 (1 : Int32) D6)
              · refine z_jp (fun j70 : Int32 → Int32 → zD → Option (Int32 × zD) => ∀ (x6 : Int32) (x7 : Int32) (D7 : zD), zGO K Y_Walls_isBetween 1 0 0 (zqI z) (j70 x6 x7 D7) 0 0 z D7 70 [(0, .ref a), (1, .int x1), (6, .int x6), (7, .int x7)] []) (fun x6 x7 D7 => ?_) (fun j70 h70 => ?_)
                · refine z_jp (fun j96 : zD → Option (Int32 × zD) => ∀ (D8 : zD), zGO K Y_Walls_isBetween 1 0 0 (zqI z) (j96  D8) 0 0 z D8 96 [] []) (fun  D8 => ?_) (fun j96 h96 => ?_)
                  · refine z_iconst (pc := 96) d_Walls_isBetween_96 ki_0 ?_
                    exact z_sub [] rfl (h97 (0 : Int32) D8)
                  · refine z_iload (pc := 70) d_Walls_isBetween_70 2 rfl ?_
                    refine z_aload_n (pc := 72) d_Walls_isBetween_72 rfl 0 rfl ?_
                    refine z_getR (pc := 73) fl_Walls_15 d_Walls_isBetween_73 (fun p9 => ?_)
                    refine z_iload_n (pc := 76) d_Walls_isBetween_76 rfl 1 rfl ?_
                    refine z_iaload (pc := 77) d_Walls_isBetween_77 (fun v10 => ?_)
                    refine z_icmp_le (pc := 78) (tgt := 96) d_Walls_isBetween_78 (by decide) ?_ ?_
                    · exact z_sub [] rfl (h96 D7)
                    · refine z_iload (pc := 81) d_Walls_isBetween_81 3 rfl ?_
                      refine z_aload_n (pc := 83) d_Walls_isBetween_83 rfl 0 rfl ?_
                      refine z_getR (pc := 84) fl_Walls_15 d_Walls_isBetween_84 (fun p11 => ?_)
                      refine z_iload_n (pc := 87) d_Walls_isBetween_87 rfl 1 rfl ?_
                      refine z_iaload (pc := 88) d_Walls_isBetween_88 (fun v12 => ?_)
                      refine z_icmp_ge (pc := 89) (tgt := 96) d_Walls_isBetween_89 (by decide) ?_ ?_
                      · exact z_sub [] rfl (h96 D7)
                      · exact z_sub [] rfl (h92 D7)
                · refine z_istore (pc := 46) d_Walls_isBetween_46 (by decide) (lv' := [(7, .int s0), (0, .ref a), (1, .int x1), (6, .int x6)]) rfl ?_
                  refine z_iload (pc := 48) d_Walls_isBetween_48 3 rfl ?_
                  refine z_aload_n (pc := 50) d_Walls_isBetween_50 rfl 1 rfl ?_
                  refine z_getR (pc := 51) fl_Walls_15 d_Walls_isBetween_51 (fun p13 => ?_)
                  refine z_iload_n (pc := 54) d_Walls_isBetween_54 rfl 2 rfl ?_
                  refine z_iaload (pc := 55) d_Walls_isBetween_55 (fun v14 => ?_)
                  refine z_icmp_ge (pc := 56) (tgt := 70) d_Walls_isBetween_56 (by decide) ?_ ?_
                  · exact z_sub [1, 2, 3, 0] rfl (h70 x6 s0 D4)
                  · refine z_iload (pc := 59) d_Walls_isBetween_59 0 rfl ?_
                    refine z_aload_n (pc := 61) d_Walls_isBetween_61 rfl 1 rfl ?_
                    refine z_getR (pc := 62) fl_Walls_15 d_Walls_isBetween_62 (fun p15 => ?_)
                    refine z_iload_n (pc := 65) d_Walls_isBetween_65 rfl 2 rfl ?_
                    refine z_iaload (pc := 66) d_Walls_isBetween_66 (fun v16 => ?_)
                    refine z_icmp_gt (pc := 67) (tgt := 92) d_Walls_isBetween_67 (by decide) ?_ ?_
                    · exact z_sub [] rfl (h92 D4)
                    · exact z_sub [1, 2, 3, 0] rfl (h70 x6 s0 D4)
          · refine z_istore (pc := 28) d_Walls_isBetween_28 (by decide) (lv' := [(6, .int s0), (0, .ref a), (1, .int x1), (4, .int x4), (5, .int x5)]) rfl ?_
            refine z_aload_n (pc := 30) d_Walls_isBetween_30 rfl 1 rfl ?_
            refine z_getR (pc := 31) fl_Walls_11 d_Walls_isBetween_31 (fun p17 => ?_)
            refine z_iload_n (pc := 34) d_Walls_isBetween_34 rfl 2 rfl ?_
            refine z_baload (pc := 35) d_Walls_isBetween_35 (fun v18 => ?_)
            refine z_if_eq (pc := 36) (tgt := 44) d_Walls_isBetween_36 (by decide) ?_ ?_
            · refine z_iload (pc := 44) d_Walls_isBetween_44 4 rfl ?_
              exact z_sub [1, 2, 0] rfl (h46 s0 x5 D3)
            · refine z_iload (pc := 39) d_Walls_isBetween_39 3 rfl ?_
              refine z_goto (pc := 41) (tgt := 46) d_Walls_isBetween_41 (by decide) ?_
              exact z_sub [1, 2, 0] rfl (h46 s0 x4 D3)
        · refine z_aload_n (pc := 14) d_Walls_isBetween_14 rfl 0 rfl ?_
          refine z_getR (pc := 15) fl_Walls_11 d_Walls_isBetween_15 (fun p19 => ?_)
          refine z_iload_n (pc := 18) d_Walls_isBetween_18 rfl 1 rfl ?_
          refine z_baload (pc := 19) d_Walls_isBetween_19 (fun v20 => ?_)
          refine z_if_eq (pc := 20) (tgt := 27) d_Walls_isBetween_20 (by decide) ?_ ?_
          · refine z_iload_n (pc := 27) d_Walls_isBetween_27 rfl 3 rfl ?_
            exact z_sub [0, 1, 4, 5] rfl (h28 x3 D)
          · refine z_iload_n (pc := 23) d_Walls_isBetween_23 rfl 2 rfl ?_
            refine z_goto (pc := 24) (tgt := 28) d_Walls_isBetween_24 (by decide) ?_
            exact z_sub [0, 1, 4, 5] rfl (h28 x2 D)
      · exact z_sub [] rfl (h12 D)
theorem d_Hearers_init_0 : decode Y_Hearers_init.2.1 0 = .ok (.aload_n 0, 1) := by decide +kernel
theorem d_Hearers_init_1 : decode Y_Hearers_init.2.1 1 = .ok (.invokespecial 3, 3) := by decide +kernel
theorem d_Hearers_init_4 : decode Y_Hearers_init.2.1 4 = .ok (.aload_n 0, 1) := by decide +kernel
theorem d_Hearers_init_5 : decode Y_Hearers_init.2.1 5 = .ok (.iconst (4), 1) := by decide +kernel
theorem d_Hearers_init_6 : decode Y_Hearers_init.2.1 6 = .ok (.newarray .int, 2) := by decide +kernel
theorem d_Hearers_init_8 : decode Y_Hearers_init.2.1 8 = .ok (.putfield 11, 3) := by decide +kernel
theorem d_Hearers_init_11 : decode Y_Hearers_init.2.1 11 = .ok (.aload_n 0, 1) := by decide +kernel
theorem d_Hearers_init_12 : decode Y_Hearers_init.2.1 12 = .ok (.iconst (4), 1) := by decide +kernel
theorem d_Hearers_init_13 : decode Y_Hearers_init.2.1 13 = .ok (.newarray .int, 2) := by decide +kernel
theorem d_Hearers_init_15 : decode Y_Hearers_init.2.1 15 = .ok (.putfield 15, 3) := by decide +kernel
theorem d_Hearers_init_18 : decode Y_Hearers_init.2.1 18 = .ok (.aload_n 0, 1) := by decide +kernel
theorem d_Hearers_init_19 : decode Y_Hearers_init.2.1 19 = .ok (.iconst (4), 1) := by decide +kernel
theorem d_Hearers_init_20 : decode Y_Hearers_init.2.1 20 = .ok (.newarray .int, 2) := by decide +kernel
theorem d_Hearers_init_22 : decode Y_Hearers_init.2.1 22 = .ok (.putfield 18, 3) := by decide +kernel
theorem d_Hearers_init_25 : decode Y_Hearers_init.2.1 25 = .ok (.aload_n 0, 1) := by decide +kernel
theorem d_Hearers_init_26 : decode Y_Hearers_init.2.1 26 = .ok (.iconst (4), 1) := by decide +kernel
theorem d_Hearers_init_27 : decode Y_Hearers_init.2.1 27 = .ok (.newarray .int, 2) := by decide +kernel
theorem d_Hearers_init_29 : decode Y_Hearers_init.2.1 29 = .ok (.putfield 21, 3) := by decide +kernel
theorem d_Hearers_init_32 : decode Y_Hearers_init.2.1 32 = .ok (.aload_n 0, 1) := by decide +kernel
theorem d_Hearers_init_33 : decode Y_Hearers_init.2.1 33 = .ok (.iconst (4), 1) := by decide +kernel
theorem d_Hearers_init_34 : decode Y_Hearers_init.2.1 34 = .ok (.newarray .int, 2) := by decide +kernel
theorem d_Hearers_init_36 : decode Y_Hearers_init.2.1 36 = .ok (.putfield 24, 3) := by decide +kernel
theorem d_Hearers_init_39 : decode Y_Hearers_init.2.1 39 = .ok (.aload_n 0, 1) := by decide +kernel
theorem d_Hearers_init_40 : decode Y_Hearers_init.2.1 40 = .ok (.iconst (4), 1) := by decide +kernel
theorem d_Hearers_init_41 : decode Y_Hearers_init.2.1 41 = .ok (.newarray .int, 2) := by decide +kernel
theorem d_Hearers_init_43 : decode Y_Hearers_init.2.1 43 = .ok (.putfield 27, 3) := by decide +kernel
theorem d_Hearers_init_46 : decode Y_Hearers_init.2.1 46 = .ok (.return_, 1) := by decide +kernel
def f_Hearers_init (z : zT) (D : zD) (a : Nat) : Option (zT × zD) := znew z D (.inl (0, 4)) (fun q1 z2 D3 => zputR z2 4 0 a q1 (fun z4 => znew z4 D3 (.inl (0, 4)) (fun q5 z6 D7 => zputR z6 4 1 a q5 (fun z8 => znew z8 D7 (.inl (0, 4)) (fun q9 z10 D11 => zputR z10 4 2 a q9 (fun z12 => znew z12 D11 (.inl (0, 4)) (fun q13 z14 D15 => zputR z14 4 3 a q13 (fun z16 => znew z16 D15 (.inl (0, 4)) (fun q17 z18 D19 => zputR z18 4 4 a q17 (fun z20 => znew z20 D19 (.inl (0, 4)) (fun q21 z22 D23 => zputR z22 4 5 a q21 (fun z24 => some (z24, D23)))))))))))))
set_option maxHeartbeats 4000000 in
set_option maxRecDepth 100000 in
theorem c_Hearers_init (z : zT) (D : zD) (a : Nat) : zM Y_Hearers_init 1 6 24 zqC (f_Hearers_init z D a) [.ref a] z D := by
  refine zM_of (plainFor_of_name (by decide +kernel)) rfl (Nat.le_of_ble_eq_true rfl) (fun _ _ _ _ h => nomatch h.1) (fun K => ?_)
  unfold f_Hearers_init
  refine z_aload_n (pc := 0) d_Hearers_init_0 rfl 0 rfl ?_
  refine z_objInit (pc := 1) w_ml_Hearers_3 w_oi1 w_oi2 (by decide) (Nat.le_of_ble_eq_true rfl) d_Hearers_init_1 ?_
  refine z_aload_n (pc := 4) d_Hearers_init_4 rfl 0 rfl ?_
  refine z_iconst (pc := 5) d_Hearers_init_5 ki_4 ?_
  refine z_newI (pc := 6) (kc2 := 5) (ks2 := 20) w_ac_int (by decide) (by decide) (Nat.le_of_ble_eq_true rfl) (by decide) (by decide) d_Hearers_init_6 (fun q1 z2 D3 => ?_)
  refine z_putR (pc := 8) fl_Hearers_11 rfl (fun _ _ _ h => by cases h; rfl) (Or.inr ⟨_, rfl⟩) d_Hearers_init_8 (fun z4 => ?_)
  refine z_aload_n (pc := 11) d_Hearers_init_11 rfl 0 rfl ?_
  refine z_iconst (pc := 12) d_Hearers_init_12 ki_4 ?_
  refine z_newI (pc := 13) (kc2 := 4) (ks2 := 16) w_ac_int (by decide) (by decide) (Nat.le_of_ble_eq_true rfl) (by decide) (by decide) d_Hearers_init_13 (fun q5 z6 D7 => ?_)
  refine z_putR (pc := 15) fl_Hearers_15 rfl (fun _ _ _ h => by cases h; rfl) (Or.inr ⟨_, rfl⟩) d_Hearers_init_15 (fun z8 => ?_)
  refine z_aload_n (pc := 18) d_Hearers_init_18 rfl 0 rfl ?_
  refine z_iconst (pc := 19) d_Hearers_init_19 ki_4 ?_
  refine z_newI (pc := 20) (kc2 := 3) (ks2 := 12) w_ac_int (by decide) (by decide) (Nat.le_of_ble_eq_true rfl) (by decide) (by decide) d_Hearers_init_20 (fun q9 z10 D11 => ?_)
  refine z_putR (pc := 22) fl_Hearers_18 rfl (fun _ _ _ h => by cases h; rfl) (Or.inr ⟨_, rfl⟩) d_Hearers_init_22 (fun z12 => ?_)
  refine z_aload_n (pc := 25) d_Hearers_init_25 rfl 0 rfl ?_
  refine z_iconst (pc := 26) d_Hearers_init_26 ki_4 ?_
  refine z_newI (pc := 27) (kc2 := 2) (ks2 := 8) w_ac_int (by decide) (by decide) (Nat.le_of_ble_eq_true rfl) (by decide) (by decide) d_Hearers_init_27 (fun q13 z14 D15 => ?_)
  refine z_putR (pc := 29) fl_Hearers_21 rfl (fun _ _ _ h => by cases h; rfl) (Or.inr ⟨_, rfl⟩) d_Hearers_init_29 (fun z16 => ?_)
  refine z_aload_n (pc := 32) d_Hearers_init_32 rfl 0 rfl ?_
  refine z_iconst (pc := 33) d_Hearers_init_33 ki_4 ?_
  refine z_newI (pc := 34) (kc2 := 1) (ks2 := 4) w_ac_int (by decide) (by decide) (Nat.le_of_ble_eq_true rfl) (by decide) (by decide) d_Hearers_init_34 (fun q17 z18 D19 => ?_)
  refine z_putR (pc := 36) fl_Hearers_24 rfl (fun _ _ _ h => by cases h; rfl) (Or.inr ⟨_, rfl⟩) d_Hearers_init_36 (fun z20 => ?_)
  refine z_aload_n (pc := 39) d_Hearers_init_39 rfl 0 rfl ?_
  refine z_iconst (pc := 40) d_Hearers_init_40 ki_4 ?_
  refine z_newI (pc := 41) (kc2 := 0) (ks2 := 0) w_ac_int (by decide) (by decide) (Nat.le_of_ble_eq_true rfl) (by decide) (by decide) d_Hearers_init_41 (fun q21 z22 D23 => ?_)
  refine z_putR (pc := 43) fl_Hearers_27 rfl (fun _ _ _ h => by cases h; rfl) (Or.inr ⟨_, rfl⟩) d_Hearers_init_43 (fun z24 => ?_)
  exact z_cret (pc := 46) d_Hearers_init_46 rfl
theorem d_Hearers_copyFrom_0 : decode Y_Hearers_copyFrom.2.1 0 = .ok (.aload_n 0, 1) := by decide +kernel
theorem d_Hearers_copyFrom_1 : decode Y_Hearers_copyFrom.2.1 1 = .ok (.aload_n 1, 1) := by decide +kernel
theorem d_Hearers_copyFrom_2 : decode Y_Hearers_copyFrom.2.1 2 = .ok (.getfield 30, 3) := by decide +kernel
theorem d_Hearers_copyFrom_5 : decode Y_Hearers_copyFrom.2.1 5 = .ok (.putfield 30, 3) := by decide +kernel
theorem d_Hearers_copyFrom_8 : decode Y_Hearers_copyFrom.2.1 8 = .ok (.aload_n 0, 1) := by decide +kernel
theorem d_Hearers_copyFrom_9 : decode Y_Hearers_copyFrom.2.1 9 = .ok (.aload_n 1, 1) := by decide +kernel
theorem d_Hearers_copyFrom_10 : decode Y_Hearers_copyFrom.2.1 10 = .ok (.getfield 34, 3) := by decide +kernel
theorem d_Hearers_copyFrom_13 : decode Y_Hearers_copyFrom.2.1 13 = .ok (.putfield 34, 3) := by decide +kernel
theorem d_Hearers_copyFrom_16 : decode Y_Hearers_copyFrom.2.1 16 = .ok (.aload_n 1, 1) := by decide +kernel
theorem d_Hearers_copyFrom_17 : decode Y_Hearers_copyFrom.2.1 17 = .ok (.getfield 11, 3) := by decide +kernel
theorem d_Hearers_copyFrom_20 : decode Y_Hearers_copyFrom.2.1 20 = .ok (.iconst (0), 1) := by decide +kernel
theorem d_Hearers_copyFrom_21 : decode Y_Hearers_copyFrom.2.1 21 = .ok (.aload_n 0, 1) := by decide +kernel
theorem d_Hearers_copyFrom_22 : decode Y_Hearers_copyFrom.2.1 22 = .ok (.getfield 11, 3) := by decide +kernel
theorem d_Hearers_copyFrom_25 : decode Y_Hearers_copyFrom.2.1 25 = .ok (.iconst (0), 1) := by decide +kernel
theorem d_Hearers_copyFrom_26 : decode Y_Hearers_copyFrom.2.1 26 = .ok (.iconst (4), 1) := by decide +kernel
theorem d_Hearers_copyFrom_27 : decode Y_Hearers_copyFrom.2.1 27 = .ok (.invokestatic 37, 3) := by decide +kernel
theorem d_Hearers_copyFrom_30 : decode Y_Hearers_copyFrom.2.1 30 = .ok (.aload_n 1, 1) := by decide +kernel
theorem d_Hearers_copyFrom_31 : decode Y_Hearers_copyFrom.2.1 31 = .ok (.getfield 15, 3) := by decide +kernel
theorem d_Hearers_copyFrom_34 : decode Y_Hearers_copyFrom.2.1 34 = .ok (.iconst (0), 1) := by decide +kernel
theorem d_Hearers_copyFrom_35 : decode Y_Hearers_copyFrom.2.1 35 = .ok (.aload_n 0, 1) := by decide +kernel
theorem d_Hearers_copyFrom_36 : decode Y_Hearers_copyFrom.2.1 36 = .ok (.getfield 15, 3) := by decide +kernel
theorem d_Hearers_copyFrom_39 : decode Y_Hearers_copyFrom.2.1 39 = .ok (.iconst (0), 1) := by decide +kernel
theorem d_Hearers_copyFrom_40 : decode Y_Hearers_copyFrom.2.1 40 = .ok (.iconst (4), 1) := by decide +kernel
theorem d_Hearers_copyFrom_41 : decode Y_Hearers_copyFrom.2.1 41 = .ok (.invokestatic 37, 3) := by decide +kernel
theorem d_Hearers_copyFrom_44 : decode Y_Hearers_copyFrom.2.1 44 = .ok (.aload_n 1, 1) := by decide +kernel
theorem d_Hearers_copyFrom_45 : decode Y_Hearers_copyFrom.2.1 45 = .ok (.getfield 18, 3) := by decide +kernel
theorem d_Hearers_copyFrom_48 : decode Y_Hearers_copyFrom.2.1 48 = .ok (.iconst (0), 1) := by decide +kernel
theorem d_Hearers_copyFrom_49 : decode Y_Hearers_copyFrom.2.1 49 = .ok (.aload_n 0, 1) := by decide +kernel
theorem d_Hearers_copyFrom_50 : decode Y_Hearers_copyFrom.2.1 50 = .ok (.getfield 18, 3) := by decide +kernel
theorem d_Hearers_copyFrom_53 : decode Y_Hearers_copyFrom.2.1 53 = .ok (.iconst (0), 1) := by decide +kernel
theorem d_Hearers_copyFrom_54 : decode Y_Hearers_copyFrom.2.1 54 = .ok (.iconst (4), 1) := by decide +kernel
theorem d_Hearers_copyFrom_55 : decode Y_Hearers_copyFrom.2.1 55 = .ok (.invokestatic 37, 3) := by decide +kernel
theorem d_Hearers_copyFrom_58 : decode Y_Hearers_copyFrom.2.1 58 = .ok (.aload_n 1, 1) := by decide +kernel
theorem d_Hearers_copyFrom_59 : decode Y_Hearers_copyFrom.2.1 59 = .ok (.getfield 21, 3) := by decide +kernel
theorem d_Hearers_copyFrom_62 : decode Y_Hearers_copyFrom.2.1 62 = .ok (.iconst (0), 1) := by decide +kernel
theorem d_Hearers_copyFrom_63 : decode Y_Hearers_copyFrom.2.1 63 = .ok (.aload_n 0, 1) := by decide +kernel
theorem d_Hearers_copyFrom_64 : decode Y_Hearers_copyFrom.2.1 64 = .ok (.getfield 21, 3) := by decide +kernel
theorem d_Hearers_copyFrom_67 : decode Y_Hearers_copyFrom.2.1 67 = .ok (.iconst (0), 1) := by decide +kernel
theorem d_Hearers_copyFrom_68 : decode Y_Hearers_copyFrom.2.1 68 = .ok (.iconst (4), 1) := by decide +kernel
theorem d_Hearers_copyFrom_69 : decode Y_Hearers_copyFrom.2.1 69 = .ok (.invokestatic 37, 3) := by decide +kernel
theorem d_Hearers_copyFrom_72 : decode Y_Hearers_copyFrom.2.1 72 = .ok (.aload_n 1, 1) := by decide +kernel
theorem d_Hearers_copyFrom_73 : decode Y_Hearers_copyFrom.2.1 73 = .ok (.getfield 24, 3) := by decide +kernel
theorem d_Hearers_copyFrom_76 : decode Y_Hearers_copyFrom.2.1 76 = .ok (.iconst (0), 1) := by decide +kernel
theorem d_Hearers_copyFrom_77 : decode Y_Hearers_copyFrom.2.1 77 = .ok (.aload_n 0, 1) := by decide +kernel
theorem d_Hearers_copyFrom_78 : decode Y_Hearers_copyFrom.2.1 78 = .ok (.getfield 24, 3) := by decide +kernel
theorem d_Hearers_copyFrom_81 : decode Y_Hearers_copyFrom.2.1 81 = .ok (.iconst (0), 1) := by decide +kernel
theorem d_Hearers_copyFrom_82 : decode Y_Hearers_copyFrom.2.1 82 = .ok (.iconst (4), 1) := by decide +kernel
theorem d_Hearers_copyFrom_83 : decode Y_Hearers_copyFrom.2.1 83 = .ok (.invokestatic 37, 3) := by decide +kernel
theorem d_Hearers_copyFrom_86 : decode Y_Hearers_copyFrom.2.1 86 = .ok (.return_, 1) := by decide +kernel
def f_Hearers_copyFrom (w : zW) (D : zD) (a : Nat) (r1 : Nat) : Option (zD) := zfld w D 4 6 r1 (fun v1 => zput w D 4 6 a v1 (fun D2 => zfld w D2 4 7 r1 (fun v3 => zput w D2 4 7 a v3 (fun D4 => zref w 4 0 r1 (fun p5 => zref w 4 0 a (fun p6 => zcpy w D4 0 p5 (0 : Int32) p6 (0 : Int32) (4 : Int32) (fun D7 => zref w 4 1 r1 (fun p8 => zref w 4 1 a (fun p9 => zcpy w D7 0 p8 (0 : Int32) p9 (0 : Int32) (4 : Int32) (fun D10 => zref w 4 2 r1 (fun p11 => zref w 4 2 a (fun p12 => zcpy w D10 0 p11 (0 : Int32) p12 (0 : Int32) (4 : Int32) (fun D13 => zref w 4 3 r1 (fun p14 => zref w 4 3 a (fun p15 => zcpy w D13 0 p14 (0 : Int32) p15 (0 : Int32) (4 : Int32) (fun D16 => zref w 4 4 r1 (fun p17 => zref w 4 4 a (fun p18 => zcpy w D16 0 p17 (0 : Int32) p18 (0 : Int32) (4 : Int32) (fun D19 => some D19)))))))))))))))))))
set_option maxHeartbeats 4000000 in
set_option maxRecDepth 100000 in
theorem c_Hearers_copyFrom (z : zT) (D : zD) (a : Nat) (r1 : Nat) : zM Y_Hearers_copyFrom 1 0 0 (zqV z) (f_Hearers_copyFrom z.2 D a r1) [.ref a, .ref r1] z D := by
  refine zM_of (plainFor_of_name (by decide +kernel)) rfl (Nat.le_of_ble_eq_true rfl) (fun _ _ _ _ h => nomatch h.1) (fun K => ?_)
  unfold f_Hearers_copyFrom
  refine z_aload_n (pc := 0) d_Hearers_copyFrom_0 rfl 0 rfl ?_
  refine z_aload_n (pc := 1) d_Hearers_copyFrom_1 rfl 1 rfl ?_
  refine z_getI (pc := 2) fl_Hearers_30 d_Hearers_copyFrom_2 (fun v1 => ?_)
  refine z_putI (pc := 5) fl_Hearers_30 d_Hearers_copyFrom_5 (fun D2 => ?_)
  refine z_aload_n (pc := 8) d_Hearers_copyFrom_8 rfl 0 rfl ?_
  refine z_aload_n (pc := 9) d_Hearers_copyFrom_9 rfl 1 rfl ?_
  refine z_getI (pc := 10) fl_Hearers_34 d_Hearers_copyFrom_10 (fun v3 => ?_)
  refine z_putI (pc := 13) fl_Hearers_34 d_Hearers_copyFrom_13 (fun D4 => ?_)
  refine z_aload_n (pc := 16) d_Hearers_copyFrom_16 rfl 1 rfl ?_
  refine z_getR (pc := 17) fl_Hearers_11 d_Hearers_copyFrom_17 (fun p5 => ?_)
  refine z_iconst (pc := 20) d_Hearers_copyFrom_20 ki_0 ?_
  refine z_aload_n (pc := 21) d_Hearers_copyFrom_21 rfl 0 rfl ?_
  refine z_getR (pc := 22) fl_Hearers_11 d_Hearers_copyFrom_22 (fun p6 => ?_)
  refine z_iconst (pc := 25) d_Hearers_copyFrom_25 ki_0 ?_
  refine z_iconst (pc := 26) d_Hearers_copyFrom_26 ki_4 ?_
  refine z_copyi (pc := 27) w_ml_Hearers_37 w_acn w_acs w_ini_System 0 (by decide) (by decide) (Nat.le_of_ble_eq_true rfl) d_Hearers_copyFrom_27 (fun D7 => ?_)
  refine z_aload_n (pc := 30) d_Hearers_copyFrom_30 rfl 1 rfl ?_
  refine z_getR (pc := 31) fl_Hearers_15 d_Hearers_copyFrom_31 (fun p8 => ?_)
  refine z_iconst (pc := 34) d_Hearers_copyFrom_34 ki_0 ?_
  refine z_aload_n (pc := 35) d_Hearers_copyFrom_35 rfl 0 rfl ?_
  refine z_getR (pc := 36) fl_Hearers_15 d_Hearers_copyFrom_36 (fun p9 => ?_)
  refine z_iconst (pc := 39) d_Hearers_copyFrom_39 ki_0 ?_
  refine z_iconst (pc := 40) d_Hearers_copyFrom_40 ki_4 ?_
  refine z_copyi (pc := 41) w_ml_Hearers_37 w_acn w_acs w_ini_System 0 (by decide) (by decide) (Nat.le_of_ble_eq_true rfl) d_Hearers_copyFrom_41 (fun D10 => ?_)
  refine z_aload_n (pc := 44) d_Hearers_copyFrom_44 rfl 1 rfl ?_
  refine z_getR (pc := 45) fl_Hearers_18 d_Hearers_copyFrom_45 (fun p11 => ?_)
  refine z_iconst (pc := 48) d_Hearers_copyFrom_48 ki_0 ?_
  refine z_aload_n (pc := 49) d_Hearers_copyFrom_49 rfl 0 rfl ?_
  refine z_getR (pc := 50) fl_Hearers_18 d_Hearers_copyFrom_50 (fun p12 => ?_)
  refine z_iconst (pc := 53) d_Hearers_copyFrom_53 ki_0 ?_
  refine z_iconst (pc := 54) d_Hearers_copyFrom_54 ki_4 ?_
  refine z_copyi (pc := 55) w_ml_Hearers_37 w_acn w_acs w_ini_System 0 (by decide) (by decide) (Nat.le_of_ble_eq_true rfl) d_Hearers_copyFrom_55 (fun D13 => ?_)
  refine z_aload_n (pc := 58) d_Hearers_copyFrom_58 rfl 1 rfl ?_
  refine z_getR (pc := 59) fl_Hearers_21 d_Hearers_copyFrom_59 (fun p14 => ?_)
  refine z_iconst (pc := 62) d_Hearers_copyFrom_62 ki_0 ?_
  refine z_aload_n (pc := 63) d_Hearers_copyFrom_63 rfl 0 rfl ?_
  refine z_getR (pc := 64) fl_Hearers_21 d_Hearers_copyFrom_64 (fun p15 => ?_)
  refine z_iconst (pc := 67) d_Hearers_copyFrom_67 ki_0 ?_
  refine z_iconst (pc := 68) d_Hearers_copyFrom_68 ki_4 ?_
  refine z_copyi (pc := 69) w_ml_Hearers_37 w_acn w_acs w_ini_System 0 (by decide) (by decide) (Nat.le_of_ble_eq_true rfl) d_Hearers_copyFrom_69 (fun D16 => ?_)
  refine z_aload_n (pc := 72) d_Hearers_copyFrom_72 rfl 1 rfl ?_
  refine z_getR (pc := 73) fl_Hearers_24 d_Hearers_copyFrom_73 (fun p17 => ?_)
  refine z_iconst (pc := 76) d_Hearers_copyFrom_76 ki_0 ?_
  refine z_aload_n (pc := 77) d_Hearers_copyFrom_77 rfl 0 rfl ?_
  refine z_getR (pc := 78) fl_Hearers_24 d_Hearers_copyFrom_78 (fun p18 => ?_)
  refine z_iconst (pc := 81) d_Hearers_copyFrom_81 ki_0 ?_
  refine z_iconst (pc := 82) d_Hearers_copyFrom_82 ki_4 ?_
  refine z_copyi (pc := 83) w_ml_Hearers_37 w_acn w_acs w_ini_System 0 (by decide) (by decide) (Nat.le_of_ble_eq_true rfl) d_Hearers_copyFrom_83 (fun D19 => ?_)
  exact z_vret (pc := 86) d_Hearers_copyFrom_86 rfl
theorem d_Hearers_has_0 : decode Y_Hearers_has.2.1 0 = .ok (.iload_n 1, 1) := by decide +kernel
theorem d_Hearers_has_1 : decode Y_Hearers_has.2.1 1 = .ok (.ifCond .lt (15), 3) := by decide +kernel
theorem d_Hearers_has_4 : decode Y_Hearers_has.2.1 4 = .ok (.iload_n 1, 1) := by decide +kernel
theorem d_Hearers_has_5 : decode Y_Hearers_has.2.1 5 = .ok (.aload_n 0, 1) := by decide +kernel
theorem d_Hearers_has_6 : decode Y_Hearers_has.2.1 6 = .ok (.getfield 30, 3) := by decide +kernel
theorem d_Hearers_has_9 : decode Y_Hearers_has.2.1 9 = .ok (.if_icmp .ge (7), 3) := by decide +kernel
theorem d_Hearers_has_12 : decode Y_Hearers_has.2.1 12 = .ok (.iconst (1), 1) := by decide +kernel
theorem d_Hearers_has_13 : decode Y_Hearers_has.2.1 13 = .ok (.goto (4), 3) := by decide +kernel
theorem d_Hearers_has_16 : decode Y_Hearers_has.2.1 16 = .ok (.iconst (0), 1) := by decide +kernel
theorem d_Hearers_has_17 : decode Y_Hearers_has.2.1 17 = .ok (.ireturn, 1) := by decide +kernel
def f_Hearers_has (w : zW) (D : zD) (a : Nat) (x1 : Int32) : Option (Int32 × zD) := zjp (fun (s0 : Int32) (D1 : zD) => zchk (s0 = 0 ∨ s0 = 1) (some (s0, D1))) (fun j17 => zjp (fun (D2 : zD) => j17 (0 : Int32) D2) (fun j16 => (if x1 < 0 then j16 D else zfld w D 4 6 a (fun v3 => (if v3 ≤ x1 then j16 D else j17 (1 : Int32) D)))))
set_option maxHeartbeats 4000000 in
set_option maxRecDepth 100000 in
theorem c_Hearers_has (z : zT) (D : zD) (a : Nat) (x1 : Int32) : zM Y_Hearers_has 1 0 0 (zqI z) (f_Hearers_has z.2 D a x1) [.ref a, .int x1] z D := by
  refine zM_of (plainFor_of_name (by decide +kernel)) rfl (Nat.le_of_ble_eq_true rfl) (fun _ _ _ _ h => nomatch h.1) (fun K => ?_)
  unfold f_Hearers_has
  refine z_jp (fun j17 : Int32 → zD → Option (Int32 × zD) => ∀ (s0 : Int32) (D1 : zD), zGO K Y_Hearers_has 1 0 0 (zqI z) (j17 s0 D1) 0 0 z D1 17 [] [.int s0]) (fun s0 D1 => ?_) (fun j17 h17 => ?_)
  · exact z_zret (pc := 17) d_Hearers_has_17 rfl
  · refine z_jp (fun j16 : zD → Option (Int32 × zD) => ∀ (D2 : zD), zGO K Y_Hearers_has 1 0 0 (zqI z) (j16  D2) 0 0 z D2 16 [] []) (fun  D2 => ?_) (fun j16 h16 => ?_)
    · refine z_iconst (pc := 16) d_Hearers_has_16 ki_0 ?_
      exact z_sub [] rfl (h17 (0 : Int32) D2)
    · refine z_iload_n (pc := 0) d_Hearers_has_0 rfl 1 rfl ?_
      refine z_if_lt (pc := 1) (tgt := 16) d_Hearers_has_1 (by decide) ?_ ?_
      · exact z_sub [] rfl (h16 D)
      · refine z_iload_n (pc := 4) d_Hearers_has_4 rfl 1 rfl ?_
        refine z_aload_n (pc := 5) d_Hearers_has_5 rfl 0 rfl ?_
        refine z_getI (pc := 6) fl_Hearers_30 d_Hearers_has_6 (fun v3 => ?_)
        refine z_icmp_ge (pc := 9) (tgt := 16) d_Hearers_has_9 (by decide) ?_ ?_
        · exact z_sub [] rfl (h16 D)
        · refine z_iconst (pc := 12) d_Hearers_has_12 ki_1 ?_
          refine z_goto (pc := 13) (tgt := 17) d_Hearers_has_13 (by decide) ?_
          exact z_sub [] rfl (h17 (1 : Int32) D)
theorem d_Hearers_add_0 : decode Y_Hearers_add.2.1 0 = .ok (.aload_n 0, 1) := by decide +kernel
theorem d_Hearers_add_1 : decode Y_Hearers_add.2.1 1 = .ok (.getfield 30, 3) := by decide +kernel
theorem d_Hearers_add_4 : decode Y_Hearers_add.2.1 4 = .ok (.iconst (4), 1) := by decide +kernel
theorem d_Hearers_add_5 : decode Y_Hearers_add.2.1 5 = .ok (.if_icmp .lt (5), 3) := by decide +kernel
theorem d_Hearers_add_8 : decode Y_Hearers_add.2.1 8 = .ok (.iconst (-1), 1) := by decide +kernel
theorem d_Hearers_add_9 : decode Y_Hearers_add.2.1 9 = .ok (.ireturn, 1) := by decide +kernel
theorem d_Hearers_add_10 : decode Y_Hearers_add.2.1 10 = .ok (.aload_n 0, 1) := by decide +kernel
theorem d_Hearers_add_11 : decode Y_Hearers_add.2.1 11 = .ok (.getfield 11, 3) := by decide +kernel
theorem d_Hearers_add_14 : decode Y_Hearers_add.2.1 14 = .ok (.aload_n 0, 1) := by decide +kernel
theorem d_Hearers_add_15 : decode Y_Hearers_add.2.1 15 = .ok (.getfield 30, 3) := by decide +kernel
theorem d_Hearers_add_18 : decode Y_Hearers_add.2.1 18 = .ok (.iload_n 1, 1) := by decide +kernel
theorem d_Hearers_add_19 : decode Y_Hearers_add.2.1 19 = .ok (.iastore, 1) := by decide +kernel
theorem d_Hearers_add_20 : decode Y_Hearers_add.2.1 20 = .ok (.aload_n 0, 1) := by decide +kernel
theorem d_Hearers_add_21 : decode Y_Hearers_add.2.1 21 = .ok (.getfield 15, 3) := by decide +kernel
theorem d_Hearers_add_24 : decode Y_Hearers_add.2.1 24 = .ok (.aload_n 0, 1) := by decide +kernel
theorem d_Hearers_add_25 : decode Y_Hearers_add.2.1 25 = .ok (.getfield 30, 3) := by decide +kernel
theorem d_Hearers_add_28 : decode Y_Hearers_add.2.1 28 = .ok (.iload_n 2, 1) := by decide +kernel
theorem d_Hearers_add_29 : decode Y_Hearers_add.2.1 29 = .ok (.iastore, 1) := by decide +kernel
theorem d_Hearers_add_30 : decode Y_Hearers_add.2.1 30 = .ok (.aload_n 0, 1) := by decide +kernel
theorem d_Hearers_add_31 : decode Y_Hearers_add.2.1 31 = .ok (.getfield 18, 3) := by decide +kernel
theorem d_Hearers_add_34 : decode Y_Hearers_add.2.1 34 = .ok (.aload_n 0, 1) := by decide +kernel
theorem d_Hearers_add_35 : decode Y_Hearers_add.2.1 35 = .ok (.getfield 30, 3) := by decide +kernel
theorem d_Hearers_add_38 : decode Y_Hearers_add.2.1 38 = .ok (.iload_n 3, 1) := by decide +kernel
theorem d_Hearers_add_39 : decode Y_Hearers_add.2.1 39 = .ok (.iastore, 1) := by decide +kernel
theorem d_Hearers_add_40 : decode Y_Hearers_add.2.1 40 = .ok (.aload_n 0, 1) := by decide +kernel
theorem d_Hearers_add_41 : decode Y_Hearers_add.2.1 41 = .ok (.getfield 21, 3) := by decide +kernel
theorem d_Hearers_add_44 : decode Y_Hearers_add.2.1 44 = .ok (.aload_n 0, 1) := by decide +kernel
theorem d_Hearers_add_45 : decode Y_Hearers_add.2.1 45 = .ok (.getfield 30, 3) := by decide +kernel
theorem d_Hearers_add_48 : decode Y_Hearers_add.2.1 48 = .ok (.iload 4, 2) := by decide +kernel
theorem d_Hearers_add_50 : decode Y_Hearers_add.2.1 50 = .ok (.iastore, 1) := by decide +kernel
theorem d_Hearers_add_51 : decode Y_Hearers_add.2.1 51 = .ok (.aload_n 0, 1) := by decide +kernel
theorem d_Hearers_add_52 : decode Y_Hearers_add.2.1 52 = .ok (.getfield 24, 3) := by decide +kernel
theorem d_Hearers_add_55 : decode Y_Hearers_add.2.1 55 = .ok (.aload_n 0, 1) := by decide +kernel
theorem d_Hearers_add_56 : decode Y_Hearers_add.2.1 56 = .ok (.getfield 30, 3) := by decide +kernel
theorem d_Hearers_add_59 : decode Y_Hearers_add.2.1 59 = .ok (.iconst (0), 1) := by decide +kernel
theorem d_Hearers_add_60 : decode Y_Hearers_add.2.1 60 = .ok (.iastore, 1) := by decide +kernel
theorem d_Hearers_add_61 : decode Y_Hearers_add.2.1 61 = .ok (.aload_n 0, 1) := by decide +kernel
theorem d_Hearers_add_62 : decode Y_Hearers_add.2.1 62 = .ok (.dup, 1) := by decide +kernel
theorem d_Hearers_add_63 : decode Y_Hearers_add.2.1 63 = .ok (.getfield 30, 3) := by decide +kernel
theorem d_Hearers_add_66 : decode Y_Hearers_add.2.1 66 = .ok (.iconst (1), 1) := by decide +kernel
theorem d_Hearers_add_67 : decode Y_Hearers_add.2.1 67 = .ok (.iadd, 1) := by decide +kernel
theorem d_Hearers_add_68 : decode Y_Hearers_add.2.1 68 = .ok (.putfield 30, 3) := by decide +kernel
theorem d_Hearers_add_71 : decode Y_Hearers_add.2.1 71 = .ok (.aload_n 0, 1) := by decide +kernel
theorem d_Hearers_add_72 : decode Y_Hearers_add.2.1 72 = .ok (.getfield 30, 3) := by decide +kernel
theorem d_Hearers_add_75 : decode Y_Hearers_add.2.1 75 = .ok (.iconst (1), 1) := by decide +kernel
theorem d_Hearers_add_76 : decode Y_Hearers_add.2.1 76 = .ok (.isub, 1) := by decide +kernel
theorem d_Hearers_add_77 : decode Y_Hearers_add.2.1 77 = .ok (.ireturn, 1) := by decide +kernel
def f_Hearers_add (w : zW) (D : zD) (a : Nat) (x1 : Int32) (x2 : Int32) (x3 : Int32) (x4 : Int32) : Option (Int32 × zD) := zfld w D 4 6 a (fun v1 => (if v1 < (4 : Int32) then zref w 4 0 a (fun p2 => zfld w D 4 6 a (fun v3 => zast w D 0 p2 v3 x1 (fun D4 => zref w 4 1 a (fun p5 => zfld w D4 4 6 a (fun v6 => zast w D4 0 p5 v6 x2 (fun D7 => zref w 4 2 a (fun p8 => zfld w D7 4 6 a (fun v9 => zast w D7 0 p8 v9 x3 (fun D10 => zref w 4 3 a (fun p11 => zfld w D10 4 6 a (fun v12 => zast w D10 0 p11 v12 x4 (fun D13 => zref w 4 4 a (fun p14 => zfld w D13 4 6 a (fun v15 => zast w D13 0 p14 v15 (0 : Int32) (fun D16 => zfld w D16 4 6 a (fun v17 => zput w D16 4 6 a (v17 + (1 : Int32)) (fun D18 => zfld w D18 4 6 a (fun v19 => some (v19 - (1 : Int32), D18))))))))))))))))))) else some ((-1 : Int32), D)))
set_option maxHeartbeats 4000000 in
set_option maxRecDepth 100000 in
theorem c_Hearers_add (z : zT) (D : zD) (a : Nat) (x1 : Int32) (x2 : Int32) (x3 : Int32) (x4 : Int32) : zM Y_Hearers_add 1 0 0 (zqI z) (f_Hearers_add z.2 D a x1 x2 x3 x4) [.ref a, .int x1, .int x2, .int x3, .int x4] z D := by
  refine zM_of (plainFor_of_name (by decide +kernel)) rfl (Nat.le_of_ble_eq_true rfl) (fun _ _ _ _ h => nomatch h.1) (fun K => ?_)
  unfold f_Hearers_add
  refine z_aload_n (pc := 0) d_Hearers_add_0 rfl 0 rfl ?_
  refine z_getI (pc := 1) fl_Hearers_30 d_Hearers_add_1 (fun v1 => ?_)
  refine z_iconst (pc := 4) d_Hearers_add_4 ki_4 ?_
  refine z_icmp_lt (pc := 5) (tgt := 10) d_Hearers_add_5 (by decide) ?_ ?_
  · refine z_aload_n (pc := 10) d_Hearers_add_10 rfl 0 rfl ?_
    refine z_getR (pc := 11) fl_Hearers_11 d_Hearers_add_11 (fun p2 => ?_)
    refine z_aload_n (pc := 14) d_Hearers_add_14 rfl 0 rfl ?_
    refine z_getI (pc := 15) fl_Hearers_30 d_Hearers_add_15 (fun v3 => ?_)
    refine z_iload_n (pc := 18) d_Hearers_add_18 rfl 1 rfl ?_
    refine z_iastore (pc := 19) d_Hearers_add_19 (fun D4 => ?_)
    refine z_aload_n (pc := 20) d_Hearers_add_20 rfl 0 rfl ?_
    refine z_getR (pc := 21) fl_Hearers_15 d_Hearers_add_21 (fun p5 => ?_)
    refine z_aload_n (pc := 24) d_Hearers_add_24 rfl 0 rfl ?_
    refine z_getI (pc := 25) fl_Hearers_30 d_Hearers_add_25 (fun v6 => ?_)
    refine z_iload_n (pc := 28) d_Hearers_add_28 rfl 2 rfl ?_
    refine z_iastore (pc := 29) d_Hearers_add_29 (fun D7 => ?_)
    refine z_aload_n (pc := 30) d_Hearers_add_30 rfl 0 rfl ?_
    refine z_getR (pc := 31) fl_Hearers_18 d_Hearers_add_31 (fun p8 => ?_)
    refine z_aload_n (pc := 34) d_Hearers_add_34 rfl 0 rfl ?_
    refine z_getI (pc := 35) fl_Hearers_30 d_Hearers_add_35 (fun v9 => ?_)
    refine z_iload_n (pc := 38) d_Hearers_add_38 rfl 3 rfl ?_
    refine z_iastore (pc := 39) d_Hearers_add_39 (fun D10 => ?_)
    refine z_aload_n (pc := 40) d_Hearers_add_40 rfl 0 rfl ?_
    refine z_getR (pc := 41) fl_Hearers_21 d_Hearers_add_41 (fun p11 => ?_)
    refine z_aload_n (pc := 44) d_Hearers_add_44 rfl 0 rfl ?_
    refine z_getI (pc := 45) fl_Hearers_30 d_Hearers_add_45 (fun v12 => ?_)
    refine z_iload (pc := 48) d_Hearers_add_48 4 rfl ?_
    refine z_iastore (pc := 50) d_Hearers_add_50 (fun D13 => ?_)
    refine z_aload_n (pc := 51) d_Hearers_add_51 rfl 0 rfl ?_
    refine z_getR (pc := 52) fl_Hearers_24 d_Hearers_add_52 (fun p14 => ?_)
    refine z_aload_n (pc := 55) d_Hearers_add_55 rfl 0 rfl ?_
    refine z_getI (pc := 56) fl_Hearers_30 d_Hearers_add_56 (fun v15 => ?_)
    refine z_iconst (pc := 59) d_Hearers_add_59 ki_0 ?_
    refine z_iastore (pc := 60) d_Hearers_add_60 (fun D16 => ?_)
    refine z_aload_n (pc := 61) d_Hearers_add_61 rfl 0 rfl ?_
    refine z_dup (pc := 62) d_Hearers_add_62 rfl ?_
    refine z_getI (pc := 63) fl_Hearers_30 d_Hearers_add_63 (fun v17 => ?_)
    refine z_iconst (pc := 66) d_Hearers_add_66 ki_1 ?_
    refine z_iadd (pc := 67) d_Hearers_add_67 ?_
    refine z_putI (pc := 68) fl_Hearers_30 d_Hearers_add_68 (fun D18 => ?_)
    refine z_aload_n (pc := 71) d_Hearers_add_71 rfl 0 rfl ?_
    refine z_getI (pc := 72) fl_Hearers_30 d_Hearers_add_72 (fun v19 => ?_)
    refine z_iconst (pc := 75) d_Hearers_add_75 ki_1 ?_
    refine z_isub (pc := 76) d_Hearers_add_76 ?_
    exact z_iret (pc := 77) d_Hearers_add_77 rfl
  · refine z_iconst (pc := 8) d_Hearers_add_8 ki_m1 ?_
    exact z_iret (pc := 9) d_Hearers_add_9 rfl
theorem d_Hearers_isOutside_0 : decode Y_Hearers_isOutside.2.1 0 = .ok (.iload_n 0, 1) := by decide +kernel
theorem d_Hearers_isOutside_1 : decode Y_Hearers_isOutside.2.1 1 = .ok (.bipush (-40), 2) := by decide +kernel
theorem d_Hearers_isOutside_3 : decode Y_Hearers_isOutside.2.1 3 = .ok (.if_icmp .lt (9), 3) := by decide +kernel
theorem d_Hearers_isOutside_6 : decode Y_Hearers_isOutside.2.1 6 = .ok (.iload_n 0, 1) := by decide +kernel
theorem d_Hearers_isOutside_7 : decode Y_Hearers_isOutside.2.1 7 = .ok (.bipush (40), 2) := by decide +kernel
theorem d_Hearers_isOutside_9 : decode Y_Hearers_isOutside.2.1 9 = .ok (.if_icmp .le (7), 3) := by decide +kernel
theorem d_Hearers_isOutside_12 : decode Y_Hearers_isOutside.2.1 12 = .ok (.iconst (1), 1) := by decide +kernel
theorem d_Hearers_isOutside_13 : decode Y_Hearers_isOutside.2.1 13 = .ok (.goto (4), 3) := by decide +kernel
theorem d_Hearers_isOutside_16 : decode Y_Hearers_isOutside.2.1 16 = .ok (.iconst (0), 1) := by decide +kernel
theorem d_Hearers_isOutside_17 : decode Y_Hearers_isOutside.2.1 17 = .ok (.ireturn, 1) := by decide +kernel
def f_Hearers_isOutside (w : zW) (D : zD) (x0 : Int32) : Option (Int32 × zD) := zjp (fun (s0 : Int32) (D1 : zD) => zchk (s0 = 0 ∨ s0 = 1) (some (s0, D1))) (fun j17 => zjp (fun (D2 : zD) => j17 (1 : Int32) D2) (fun j12 => (if x0 < (-40 : Int32) then j12 D else (if x0 ≤ (40 : Int32) then j17 (0 : Int32) D else j12 D))))
set_option maxHeartbeats 4000000 in
set_option maxRecDepth 100000 in
theorem c_Hearers_isOutside (z : zT) (D : zD) (x0 : Int32) : zM Y_Hearers_isOutside 1 0 0 (zqI z) (f_Hearers_isOutside z.2 D x0) [.int x0] z D := by
  refine zM_of (plainFor_of_name (by decide +kernel)) rfl (Nat.le_of_ble_eq_true rfl) (fun _ _ _ _ h => nomatch h.1) (fun K => ?_)
  unfold f_Hearers_isOutside
  refine z_jp (fun j17 : Int32 → zD → Option (Int32 × zD) => ∀ (s0 : Int32) (D1 : zD), zGO K Y_Hearers_isOutside 1 0 0 (zqI z) (j17 s0 D1) 0 0 z D1 17 [] [.int s0]) (fun s0 D1 => ?_) (fun j17 h17 => ?_)
  · exact z_zret (pc := 17) d_Hearers_isOutside_17 rfl
  · refine z_jp (fun j12 : zD → Option (Int32 × zD) => ∀ (D2 : zD), zGO K Y_Hearers_isOutside 1 0 0 (zqI z) (j12  D2) 0 0 z D2 12 [] []) (fun  D2 => ?_) (fun j12 h12 => ?_)
    · refine z_iconst (pc := 12) d_Hearers_isOutside_12 ki_1 ?_
      refine z_goto (pc := 13) (tgt := 17) d_Hearers_isOutside_13 (by decide) ?_
      exact z_sub [] rfl (h17 (1 : Int32) D2)
    · refine z_iload_n (pc := 0) d_Hearers_isOutside_0 rfl 0 rfl ?_
      refine z_bipush (pc := 1) d_Hearers_isOutside_1 kb_m40 ?_
      refine z_icmp_lt (pc := 3) (tgt := 12) d_Hearers_isOutside_3 (by decide) ?_ ?_
      · exact z_sub [] rfl (h12 D)
      · refine z_iload_n (pc := 6) d_Hearers_isOutside_6 rfl 0 rfl ?_
        refine z_bipush (pc := 7) d_Hearers_isOutside_7 kb_40 ?_
        refine z_icmp_le (pc := 9) (tgt := 16) d_Hearers_isOutside_9 (by decide) ?_ ?_
        · refine z_iconst (pc := 16) d_Hearers_isOutside_16 ki_0 ?_
          exact z_sub [] rfl (h17 (0 : Int32) D)
        · exact z_sub [] rfl (h12 D)
theorem d_Hearers_send_0 : decode Y_Hearers_send.2.1 0 = .ok (.aload_n 0, 1) := by decide +kernel
theorem d_Hearers_send_1 : decode Y_Hearers_send.2.1 1 = .ok (.iload_n 1, 1) := by decide +kernel
theorem d_Hearers_send_2 : decode Y_Hearers_send.2.1 2 = .ok (.invokevirtual 43, 3) := by decide +kernel
theorem d_Hearers_send_5 : decode Y_Hearers_send.2.1 5 = .ok (.ifCond .ne (5), 3) := by decide +kernel
theorem d_Hearers_send_8 : decode Y_Hearers_send.2.1 8 = .ok (.iconst (0), 1) := by decide +kernel
theorem d_Hearers_send_9 : decode Y_Hearers_send.2.1 9 = .ok (.ireturn, 1) := by decide +kernel
theorem d_Hearers_send_10 : decode Y_Hearers_send.2.1 10 = .ok (.aload_n 0, 1) := by decide +kernel
theorem d_Hearers_send_11 : decode Y_Hearers_send.2.1 11 = .ok (.getfield 18, 3) := by decide +kernel
theorem d_Hearers_send_14 : decode Y_Hearers_send.2.1 14 = .ok (.iload_n 1, 1) := by decide +kernel
theorem d_Hearers_send_15 : decode Y_Hearers_send.2.1 15 = .ok (.iload_n 2, 1) := by decide +kernel
theorem d_Hearers_send_16 : decode Y_Hearers_send.2.1 16 = .ok (.iastore, 1) := by decide +kernel
theorem d_Hearers_send_17 : decode Y_Hearers_send.2.1 17 = .ok (.aload_n 0, 1) := by decide +kernel
theorem d_Hearers_send_18 : decode Y_Hearers_send.2.1 18 = .ok (.getfield 21, 3) := by decide +kernel
theorem d_Hearers_send_21 : decode Y_Hearers_send.2.1 21 = .ok (.iload_n 1, 1) := by decide +kernel
theorem d_Hearers_send_22 : decode Y_Hearers_send.2.1 22 = .ok (.iload_n 3, 1) := by decide +kernel
theorem d_Hearers_send_23 : decode Y_Hearers_send.2.1 23 = .ok (.iastore, 1) := by decide +kernel
theorem d_Hearers_send_24 : decode Y_Hearers_send.2.1 24 = .ok (.iconst (1), 1) := by decide +kernel
theorem d_Hearers_send_25 : decode Y_Hearers_send.2.1 25 = .ok (.ireturn, 1) := by decide +kernel
def f_Hearers_send (w : zW) (D : zD) (a : Nat) (x1 : Int32) (x2 : Int32) (x3 : Int32) : Option (Int32 × zD) := zobj w 4 a (zci (f_Hearers_has w D a x1) (fun v1 D2 => (if v1 = 0 then some ((0 : Int32), D2) else zref w 4 2 a (fun p3 => zast w D2 0 p3 x1 x2 (fun D4 => zref w 4 3 a (fun p5 => zast w D4 0 p5 x1 x3 (fun D6 => some ((1 : Int32), D6))))))))
set_option maxHeartbeats 4000000 in
set_option maxRecDepth 100000 in
theorem c_Hearers_send (z : zT) (D : zD) (a : Nat) (x1 : Int32) (x2 : Int32) (x3 : Int32) : zM Y_Hearers_send 2 0 0 (zqI z) (f_Hearers_send z.2 D a x1 x2 x3) [.ref a, .int x1, .int x2, .int x3] z D := by
  refine zM_of (plainFor_of_name (by decide +kernel)) rfl (Nat.le_of_ble_eq_true rfl) (fun _ _ _ _ h => nomatch h.1) (fun K => ?_)
  unfold f_Hearers_send
  refine z_aload_n (pc := 0) d_Hearers_send_0 rfl 0 rfl ?_
  refine z_iload_n (pc := 1) d_Hearers_send_1 rfl 1 rfl ?_
  refine z_callVi (pc := 2) [.int x1] lkV_Hearers_43 rfl (c_Hearers_has z D a x1) (by decide) rfl rfl (Nat.le_of_ble_eq_true rfl) d_Hearers_send_2 (fun v1 D2 => ?_)
  refine z_if_ne (pc := 5) (tgt := 10) d_Hearers_send_5 (by decide) ?_ ?_
  · refine z_iconst (pc := 8) d_Hearers_send_8 ki_0 ?_
    exact z_zretK (pc := 9) d_Hearers_send_9 rfl (by decide)
  · refine z_aload_n (pc := 10) d_Hearers_send_10 rfl 0 rfl ?_
    refine z_getR (pc := 11) fl_Hearers_18 d_Hearers_send_11 (fun p3 => ?_)
    refine z_iload_n (pc := 14) d_Hearers_send_14 rfl 1 rfl ?_
    refine z_iload_n (pc := 15) d_Hearers_send_15 rfl 2 rfl ?_
    refine z_iastore (pc := 16) d_Hearers_send_16 (fun D4 => ?_)
    refine z_aload_n (pc := 17) d_Hearers_send_17 rfl 0 rfl ?_
    refine z_getR (pc := 18) fl_Hearers_21 d_Hearers_send_18 (fun p5 => ?_)
    refine z_iload_n (pc := 21) d_Hearers_send_21 rfl 1 rfl ?_
    refine z_iload_n (pc := 22) d_Hearers_send_22 rfl 3 rfl ?_
    refine z_iastore (pc := 23) d_Hearers_send_23 (fun D6 => ?_)
    refine z_iconst (pc := 24) d_Hearers_send_24 ki_1 ?_
    exact z_zretK (pc := 25) d_Hearers_send_25 rfl (by decide)
theorem d_Hearers_walkOn_0 : decode Y_Hearers_walkOn.2.1 0 = .ok (.iconst (0), 1) := by decide +kernel
theorem d_Hearers_walkOn_1 : decode Y_Hearers_walkOn.2.1 1 = .ok (.istore_n 1, 1) := by decide +kernel
theorem d_Hearers_walkOn_2 : decode Y_Hearers_walkOn.2.1 2 = .ok (.iload_n 1, 1) := by decide +kernel
theorem d_Hearers_walkOn_3 : decode Y_Hearers_walkOn.2.1 3 = .ok (.aload_n 0, 1) := by decide +kernel
theorem d_Hearers_walkOn_4 : decode Y_Hearers_walkOn.2.1 4 = .ok (.getfield 30, 3) := by decide +kernel
theorem d_Hearers_walkOn_7 : decode Y_Hearers_walkOn.2.1 7 = .ok (.if_icmp .ge (111), 3) := by decide +kernel
theorem d_Hearers_walkOn_10 : decode Y_Hearers_walkOn.2.1 10 = .ok (.aload_n 0, 1) := by decide +kernel
theorem d_Hearers_walkOn_11 : decode Y_Hearers_walkOn.2.1 11 = .ok (.getfield 11, 3) := by decide +kernel
theorem d_Hearers_walkOn_14 : decode Y_Hearers_walkOn.2.1 14 = .ok (.iload_n 1, 1) := by decide +kernel
theorem d_Hearers_walkOn_15 : decode Y_Hearers_walkOn.2.1 15 = .ok (.iaload, 1) := by decide +kernel
theorem d_Hearers_walkOn_16 : decode Y_Hearers_walkOn.2.1 16 = .ok (.aload_n 0, 1) := by decide +kernel
theorem d_Hearers_walkOn_17 : decode Y_Hearers_walkOn.2.1 17 = .ok (.getfield 18, 3) := by decide +kernel
theorem d_Hearers_walkOn_20 : decode Y_Hearers_walkOn.2.1 20 = .ok (.iload_n 1, 1) := by decide +kernel
theorem d_Hearers_walkOn_21 : decode Y_Hearers_walkOn.2.1 21 = .ok (.iaload, 1) := by decide +kernel
theorem d_Hearers_walkOn_22 : decode Y_Hearers_walkOn.2.1 22 = .ok (.iadd, 1) := by decide +kernel
theorem d_Hearers_walkOn_23 : decode Y_Hearers_walkOn.2.1 23 = .ok (.istore_n 2, 1) := by decide +kernel
theorem d_Hearers_walkOn_24 : decode Y_Hearers_walkOn.2.1 24 = .ok (.aload_n 0, 1) := by decide +kernel
theorem d_Hearers_walkOn_25 : decode Y_Hearers_walkOn.2.1 25 = .ok (.getfield 15, 3) := by decide +kernel
theorem d_Hearers_walkOn_28 : decode Y_Hearers_walkOn.2.1 28 = .ok (.iload_n 1, 1) := by decide +kernel
theorem d_Hearers_walkOn_29 : decode Y_Hearers_walkOn.2.1 29 = .ok (.iaload, 1) := by decide +kernel
theorem d_Hearers_walkOn_30 : decode Y_Hearers_walkOn.2.1 30 = .ok (.aload_n 0, 1) := by decide +kernel
theorem d_Hearers_walkOn_31 : decode Y_Hearers_walkOn.2.1 31 = .ok (.getfield 21, 3) := by decide +kernel
theorem d_Hearers_walkOn_34 : decode Y_Hearers_walkOn.2.1 34 = .ok (.iload_n 1, 1) := by decide +kernel
theorem d_Hearers_walkOn_35 : decode Y_Hearers_walkOn.2.1 35 = .ok (.iaload, 1) := by decide +kernel
theorem d_Hearers_walkOn_36 : decode Y_Hearers_walkOn.2.1 36 = .ok (.iadd, 1) := by decide +kernel
theorem d_Hearers_walkOn_37 : decode Y_Hearers_walkOn.2.1 37 = .ok (.istore_n 3, 1) := by decide +kernel
theorem d_Hearers_walkOn_38 : decode Y_Hearers_walkOn.2.1 38 = .ok (.iload_n 2, 1) := by decide +kernel
theorem d_Hearers_walkOn_39 : decode Y_Hearers_walkOn.2.1 39 = .ok (.invokestatic 47, 3) := by decide +kernel
theorem d_Hearers_walkOn_42 : decode Y_Hearers_walkOn.2.1 42 = .ok (.ifCond .eq (16), 3) := by decide +kernel
theorem d_Hearers_walkOn_45 : decode Y_Hearers_walkOn.2.1 45 = .ok (.aload_n 0, 1) := by decide +kernel
theorem d_Hearers_walkOn_46 : decode Y_Hearers_walkOn.2.1 46 = .ok (.getfield 18, 3) := by decide +kernel
theorem d_Hearers_walkOn_49 : decode Y_Hearers_walkOn.2.1 49 = .ok (.iload_n 1, 1) := by decide +kernel
theorem d_Hearers_walkOn_50 : decode Y_Hearers_walkOn.2.1 50 = .ok (.aload_n 0, 1) := by decide +kernel
theorem d_Hearers_walkOn_51 : decode Y_Hearers_walkOn.2.1 51 = .ok (.getfield 18, 3) := by decide +kernel
theorem d_Hearers_walkOn_54 : decode Y_Hearers_walkOn.2.1 54 = .ok (.iload_n 1, 1) := by decide +kernel
theorem d_Hearers_walkOn_55 : decode Y_Hearers_walkOn.2.1 55 = .ok (.iaload, 1) := by decide +kernel
theorem d_Hearers_walkOn_56 : decode Y_Hearers_walkOn.2.1 56 = .ok (.ineg, 1) := by decide +kernel
theorem d_Hearers_walkOn_57 : decode Y_Hearers_walkOn.2.1 57 = .ok (.iastore, 1) := by decide +kernel
theorem d_Hearers_walkOn_58 : decode Y_Hearers_walkOn.2.1 58 = .ok (.iload_n 3, 1) := by decide +kernel
theorem d_Hearers_walkOn_59 : decode Y_Hearers_walkOn.2.1 59 = .ok (.invokestatic 47, 3) := by decide +kernel
theorem d_Hearers_walkOn_62 : decode Y_Hearers_walkOn.2.1 62 = .ok (.ifCond .eq (16), 3) := by decide +kernel
theorem d_Hearers_walkOn_65 : decode Y_Hearers_walkOn.2.1 65 = .ok (.aload_n 0, 1) := by decide +kernel
theorem d_Hearers_walkOn_66 : decode Y_Hearers_walkOn.2.1 66 = .ok (.getfield 21, 3) := by decide +kernel
theorem d_Hearers_walkOn_69 : decode Y_Hearers_walkOn.2.1 69 = .ok (.iload_n 1, 1) := by decide +kernel
theorem d_Hearers_walkOn_70 : decode Y_Hearers_walkOn.2.1 70 = .ok (.aload_n 0, 1) := by decide +kernel
theorem d_Hearers_walkOn_71 : decode Y_Hearers_walkOn.2.1 71 = .ok (.getfield 21, 3) := by decide +kernel
theorem d_Hearers_walkOn_74 : decode Y_Hearers_walkOn.2.1 74 = .ok (.iload_n 1, 1) := by decide +kernel
theorem d_Hearers_walkOn_75 : decode Y_Hearers_walkOn.2.1 75 = .ok (.iaload, 1) := by decide +kernel
theorem d_Hearers_walkOn_76 : decode Y_Hearers_walkOn.2.1 76 = .ok (.ineg, 1) := by decide +kernel
theorem d_Hearers_walkOn_77 : decode Y_Hearers_walkOn.2.1 77 = .ok (.iastore, 1) := by decide +kernel
theorem d_Hearers_walkOn_78 : decode Y_Hearers_walkOn.2.1 78 = .ok (.aload_n 0, 1) := by decide +kernel
theorem d_Hearers_walkOn_79 : decode Y_Hearers_walkOn.2.1 79 = .ok (.getfield 11, 3) := by decide +kernel
theorem d_Hearers_walkOn_82 : decode Y_Hearers_walkOn.2.1 82 = .ok (.iload_n 1, 1) := by decide +kernel
theorem d_Hearers_walkOn_83 : decode Y_Hearers_walkOn.2.1 83 = .ok (.bipush (-40), 2) := by decide +kernel
theorem d_Hearers_walkOn_85 : decode Y_Hearers_walkOn.2.1 85 = .ok (.bipush (40), 2) := by decide +kernel
theorem d_Hearers_walkOn_87 : decode Y_Hearers_walkOn.2.1 87 = .ok (.iload_n 2, 1) := by decide +kernel
theorem d_Hearers_walkOn_88 : decode Y_Hearers_walkOn.2.1 88 = .ok (.invokestatic 50, 3) := by decide +kernel
theorem d_Hearers_walkOn_91 : decode Y_Hearers_walkOn.2.1 91 = .ok (.invokestatic 56, 3) := by decide +kernel
theorem d_Hearers_walkOn_94 : decode Y_Hearers_walkOn.2.1 94 = .ok (.iastore, 1) := by decide +kernel
theorem d_Hearers_walkOn_95 : decode Y_Hearers_walkOn.2.1 95 = .ok (.aload_n 0, 1) := by decide +kernel
theorem d_Hearers_walkOn_96 : decode Y_Hearers_walkOn.2.1 96 = .ok (.getfield 15, 3) := by decide +kernel
theorem d_Hearers_walkOn_99 : decode Y_Hearers_walkOn.2.1 99 = .ok (.iload_n 1, 1) := by decide +kernel
theorem d_Hearers_walkOn_100 : decode Y_Hearers_walkOn.2.1 100 = .ok (.bipush (-40), 2) := by decide +kernel
theorem d_Hearers_walkOn_102 : decode Y_Hearers_walkOn.2.1 102 = .ok (.bipush (40), 2) := by decide +kernel
theorem d_Hearers_walkOn_104 : decode Y_Hearers_walkOn.2.1 104 = .ok (.iload_n 3, 1) := by decide +kernel
theorem d_Hearers_walkOn_105 : decode Y_Hearers_walkOn.2.1 105 = .ok (.invokestatic 50, 3) := by decide +kernel
theorem d_Hearers_walkOn_108 : decode Y_Hearers_walkOn.2.1 108 = .ok (.invokestatic 56, 3) := by decide +kernel
theorem d_Hearers_walkOn_111 : decode Y_Hearers_walkOn.2.1 111 = .ok (.iastore, 1) := by decide +kernel
theorem d_Hearers_walkOn_112 : decode Y_Hearers_walkOn.2.1 112 = .ok (.iinc 1 (1), 3) := by decide +kernel
theorem d_Hearers_walkOn_115 : decode Y_Hearers_walkOn.2.1 115 = .ok (.goto (-113), 3) := by decide +kernel
theorem d_Hearers_walkOn_118 : decode Y_Hearers_walkOn.2.1 118 = .ok (.return_, 1) := by decide +kernel
def f_Hearers_walkOn (w : zW) (D : zD) (a : Nat) : Option (zD) := zjp (zlp (fun (_ : Int32) (_ : zD) => none) (fun (j2 : Int32 → zD → Option (zD)) (x1 : Int32) (D1 : zD) => zfld w D1 4 6 a (fun v2 => (if v2 ≤ x1 then some D1 else zjp (fun (x1 : Int32) (x2 : Int32) (x3 : Int32) (D3 : zD) => zjp (fun (x1 : Int32) (x2 : Int32) (x3 : Int32) (D4 : zD) => zref w 4 0 a (fun p5 => zci (f_Math_min w D4 (40 : Int32) x2) (fun v6 D7 => zci (f_Math_max w D7 (-40 : Int32) v6) (fun v8 D9 => zast w D9 0 p5 x1 v8 (fun D10 => zref w 4 1 a (fun p11 => zci (f_Math_min w D10 (40 : Int32) x3) (fun v12 D13 => zci (f_Math_max w D13 (-40 : Int32) v12) (fun v14 D15 => zast w D15 0 p11 x1 v14 (fun D16 => zlet (x1 + (1 : Int32)) (fun v17 => j2 v17 D16)))))))))) (fun j78 => zci (f_Hearers_isOutside w D3 x3) (fun v18 D19 => (if v18 = 0 then j78 x1 x2 x3 D19 else zref w 4 3 a (fun p20 => zref w 4 3 a (fun p21 => zald w D19 0 p21 x1 (fun v22 => zast w D19 0 p20 x1 (-v22) (fun D23 => j78 x1 x2 x3 D23)))))))) (fun j58 => zref w 4 0 a (fun p24 => zald w D1 0 p24 x1 (fun v25 => zref w 4 2 a (fun p26 => zald w D1 0 p26 x1 (fun v27 => zlet (v25 + v27) (fun v28 => zref w 4 1 a (fun p29 => zald w D1 0 p29 x1 (fun v30 => zref w 4 3 a (fun p31 => zald w D1 0 p31 x1 (fun v32 => zlet (v30 + v32) (fun v33 => zci (f_Hearers_isOutside w D1 v28) (fun v34 D35 => (if v34 = 0 then j58 x1 v28 v33 D35 else zref w 4 2 a (fun p36 => zref w 4 2 a (fun p37 => zald w D35 0 p37 x1 (fun v38 => zast w D35 0 p36 x1 (-v38) (fun D39 => j58 x1 v28 v33 D39)))))))))))))))))))) zfuel) (fun j2 => j2 (0 : Int32) D)
set_option maxHeartbeats 4000000 in
set_option maxRecDepth 100000 in
theorem c_Hearers_walkOn (z : zT) (D : zD) (a : Nat) : zM Y_Hearers_walkOn 2 0 0 (zqV z) (f_Hearers_walkOn z.2 D a) [.ref a] z D := by
  refine zM_of (plainFor_of_name (by decide +kernel)) rfl (Nat.le_of_ble_eq_true rfl) (fun _ _ _ _ h => nomatch h.1) (fun K => ?_)
  unfold f_Hearers_walkOn
  refine z_jp (fun j2 : Int32 → zD → Option (zD) => ∀ (x1 : Int32) (D1 : zD), zGO K Y_Hearers_walkOn 2 0 0 (zqV z) (j2 x1 D1) 0 0 z D1 2 [(0, .ref a), (1, .int x1)] []) (z_lp (fun j2 : Int32 → zD → Option (zD) => ∀ (x1 : Int32) (D1 : zD), zGO K Y_Hearers_walkOn 2 0 0 (zqV z) (j2 x1 D1) 0 0 z D1 2 [(0, .ref a), (1, .int x1)] []) (fun _ _ => z_none) (fun j2 h2 x1 D1 => ?_) zfuel) (fun j2 h2 => ?_)
  · refine z_iload_n (pc := 2) d_Hearers_walkOn_2 rfl 1 rfl ?_
    refine z_aload_n (pc := 3) d_Hearers_walkOn_3 rfl 0 rfl ?_
    refine z_getI (pc := 4) fl_Hearers_30 d_Hearers_walkOn_4 (fun v2 => ?_)
    refine z_icmp_ge (pc := 7) (tgt := 118) d_Hearers_walkOn_7 (by decide) ?_ ?_
    · exact z_vret (pc := 118) d_Hearers_walkOn_118 rfl
    · refine z_jp (fun j58 : Int32 → Int32 → Int32 → zD → Option (zD) => ∀ (x1 : Int32) (x2 : Int32) (x3 : Int32) (D3 : zD), zGO K Y_Hearers_walkOn 2 0 0 (zqV z) (j58 x1 x2 x3 D3) 0 0 z D3 58 [(0, .ref a), (1, .int x1), (2, .int x2), (3, .int x3)] []) (fun x1 x2 x3 D3 => ?_) (fun j58 h58 => ?_)
      · refine z_jp (fun j78 : Int32 → Int32 → Int32 → zD → Option (zD) => ∀ (x1 : Int32) (x2 : Int32) (x3 : Int32) (D4 : zD), zGO K Y_Hearers_walkOn 2 0 0 (zqV z) (j78 x1 x2 x3 D4) 0 0 z D4 78 [(0, .ref a), (1, .int x1), (2, .int x2), (3, .int x3)] []) (fun x1 x2 x3 D4 => ?_) (fun j78 h78 => ?_)
        · refine z_aload_n (pc := 78) d_Hearers_walkOn_78 rfl 0 rfl ?_
          refine z_getR (pc := 79) fl_Hearers_11 d_Hearers_walkOn_79 (fun p5 => ?_)
          refine z_iload_n (pc := 82) d_Hearers_walkOn_82 rfl 1 rfl ?_
          refine z_bipush (pc := 83) d_Hearers_walkOn_83 kb_m40 ?_
          refine z_bipush (pc := 85) d_Hearers_walkOn_85 kb_40 ?_
          refine z_iload_n (pc := 87) d_Hearers_walkOn_87 rfl 2 rfl ?_
          refine z_callSi (pc := 88) [.int (40 : Int32), .int x2] lkS_Hearers_50 (c_Math_min z D4 (40 : Int32) x2) (by decide) rfl rfl (Nat.le_of_ble_eq_true rfl) d_Hearers_walkOn_88 (fun v6 D7 => ?_)
          refine z_callSi (pc := 91) [.int (-40 : Int32), .int v6] lkS_Hearers_56 (c_Math_max z D7 (-40 : Int32) v6) (by decide) rfl rfl (Nat.le_of_ble_eq_true rfl) d_Hearers_walkOn_91 (fun v8 D9 => ?_)
          refine z_iastore (pc := 94) d_Hearers_walkOn_94 (fun D10 => ?_)
          refine z_aload_n (pc := 95) d_Hearers_walkOn_95 rfl 0 rfl ?_
          refine z_getR (pc := 96) fl_Hearers_15 d_Hearers_walkOn_96 (fun p11 => ?_)
          refine z_iload_n (pc := 99) d_Hearers_walkOn_99 rfl 1 rfl ?_
          refine z_bipush (pc := 100) d_Hearers_walkOn_100 kb_m40 ?_
          refine z_bipush (pc := 102) d_Hearers_walkOn_102 kb_40 ?_
          refine z_iload_n (pc := 104) d_Hearers_walkOn_104 rfl 3 rfl ?_
          refine z_callSi (pc := 105) [.int (40 : Int32), .int x3] lkS_Hearers_50 (c_Math_min z D10 (40 : Int32) x3) (by decide) rfl rfl (Nat.le_of_ble_eq_true rfl) d_Hearers_walkOn_105 (fun v12 D13 => ?_)
          refine z_callSi (pc := 108) [.int (-40 : Int32), .int v12] lkS_Hearers_56 (c_Math_max z D13 (-40 : Int32) v12) (by decide) rfl rfl (Nat.le_of_ble_eq_true rfl) d_Hearers_walkOn_108 (fun v14 D15 => ?_)
          refine z_iastore (pc := 111) d_Hearers_walkOn_111 (fun D16 => ?_)
          refine z_iincL (pc := 112) d_Hearers_walkOn_112 ki_1 1 rfl (by decide) (fun v17 => z_lvc (lv2 := [(1, .int v17), (0, .ref a), (2, .int x2), (3, .int x3)]) rfl ?_)
          refine z_goto (pc := 115) (tgt := 2) d_Hearers_walkOn_115 (by decide) ?_
          exact z_sub [1, 0] rfl (h2 v17 D16)
        · refine z_iload_n (pc := 58) d_Hearers_walkOn_58 rfl 3 rfl ?_
          refine z_callSi (pc := 59) [.int x3] lkS_Hearers_47 (c_Hearers_isOutside z D3 x3) (by decide) rfl rfl (Nat.le_of_ble_eq_true rfl) d_Hearers_walkOn_59 (fun v18 D19 => ?_)
          refine z_if_eq (pc := 62) (tgt := 78) d_Hearers_walkOn_62 (by decide) ?_ ?_
          · exact z_sub [0, 1, 2, 3] rfl (h78 x1 x2 x3 D19)
          · refine z_aload_n (pc := 65) d_Hearers_walkOn_65 rfl 0 rfl ?_
            refine z_getR (pc := 66) fl_Hearers_21 d_Hearers_walkOn_66 (fun p20 => ?_)
            refine z_iload_n (pc := 69) d_Hearers_walkOn_69 rfl 1 rfl ?_
            refine z_aload_n (pc := 70) d_Hearers_walkOn_70 rfl 0 rfl ?_
            refine z_getR (pc := 71) fl_Hearers_21 d_Hearers_walkOn_71 (fun p21 => ?_)
            refine z_iload_n (pc := 74) d_Hearers_walkOn_74 rfl 1 rfl ?_
            refine z_iaload (pc := 75) d_Hearers_walkOn_75 (fun v22 => ?_)
            refine z_ineg (pc := 76) d_Hearers_walkOn_76 ?_
            refine z_iastore (pc := 77) d_Hearers_walkOn_77 (fun D23 => ?_)
            exact z_sub [0, 1, 2, 3] rfl (h78 x1 x2 x3 D23)
      · refine z_aload_n (pc := 10) d_Hearers_walkOn_10 rfl 0 rfl ?_
        refine z_getR (pc := 11) fl_Hearers_11 d_Hearers_walkOn_11 (fun p24 => ?_)
        refine z_iload_n (pc := 14) d_Hearers_walkOn_14 rfl 1 rfl ?_
        refine z_iaload (pc := 15) d_Hearers_walkOn_15 (fun v25 => ?_)
        refine z_aload_n (pc := 16) d_Hearers_walkOn_16 rfl 0 rfl ?_
        refine z_getR (pc := 17) fl_Hearers_18 d_Hearers_walkOn_17 (fun p26 => ?_)
        refine z_iload_n (pc := 20) d_Hearers_walkOn_20 rfl 1 rfl ?_
        refine z_iaload (pc := 21) d_Hearers_walkOn_21 (fun v27 => ?_)
        refine z_iadd (pc := 22) d_Hearers_walkOn_22 ?_
        refine z_leti (fun v28 => ?_)
        refine z_istore_n (pc := 23) d_Hearers_walkOn_23 rfl (by decide) (lv' := [(2, .int v28), (0, .ref a), (1, .int x1)]) rfl ?_
        refine z_aload_n (pc := 24) d_Hearers_walkOn_24 rfl 1 rfl ?_
        refine z_getR (pc := 25) fl_Hearers_15 d_Hearers_walkOn_25 (fun p29 => ?_)
        refine z_iload_n (pc := 28) d_Hearers_walkOn_28 rfl 2 rfl ?_
        refine z_iaload (pc := 29) d_Hearers_walkOn_29 (fun v30 => ?_)
        refine z_aload_n (pc := 30) d_Hearers_walkOn_30 rfl 1 rfl ?_
        refine z_getR (pc := 31) fl_Hearers_21 d_Hearers_walkOn_31 (fun p31 => ?_)
        refine z_iload_n (pc := 34) d_Hearers_walkOn_34 rfl 2 rfl ?_
        refine z_iaload (pc := 35) d_Hearers_walkOn_35 (fun v32 => ?_)
        refine z_iadd (pc := 36) d_Hearers_walkOn_36 ?_
        refine z_leti (fun v33 => ?_)
        refine z_istore_n (pc := 37) d_Hearers_walkOn_37 rfl (by decide) (lv' := [(3, .int v33), (2, .int v28), (0, .ref a), (1, .int x1)]) rfl ?_
        refine z_iload_n (pc := 38) d_Hearers_walkOn_38 rfl 1 rfl ?_
        refine z_callSi (pc := 39) [.int v28] lkS_Hearers_47 (c_Hearers_isOutside z D1 v28) (by decide) rfl rfl (Nat.le_of_ble_eq_true rfl) d_Hearers_walkOn_39 (fun v34 D35 => ?_)
        refine z_if_eq (pc := 42) (tgt := 58) d_Hearers_walkOn_42 (by decide) ?_ ?_
        · exact z_sub [2, 3, 1, 0] rfl (h58 x1 v28 v33 D35)
        · refine z_aload_n (pc := 45) d_Hearers_walkOn_45 rfl 2 rfl ?_
          refine z_getR (pc := 46) fl_Hearers_18 d_Hearers_walkOn_46 (fun p36 => ?_)
          refine z_iload_n (pc := 49) d_Hearers_walkOn_49 rfl 3 rfl ?_
          refine z_aload_n (pc := 50) d_Hearers_walkOn_50 rfl 2 rfl ?_
          refine z_getR (pc := 51) fl_Hearers_18 d_Hearers_walkOn_51 (fun p37 => ?_)
          refine z_iload_n (pc := 54) d_Hearers_walkOn_54 rfl 3 rfl ?_
          refine z_iaload (pc := 55) d_Hearers_walkOn_55 (fun v38 => ?_)
          refine z_ineg (pc := 56) d_Hearers_walkOn_56 ?_
          refine z_iastore (pc := 57) d_Hearers_walkOn_57 (fun D39 => ?_)
          exact z_sub [2, 3, 1, 0] rfl (h58 x1 v28 v33 D39)
  · refine z_iconst (pc := 0) d_Hearers_walkOn_0 ki_0 ?_
    refine z_istore_n (pc := 1) d_Hearers_walkOn_1 rfl (by decide) (lv' := [(1, .int (0 : Int32)), (0, .ref a)]) rfl ?_
    exact z_sub [1, 0] rfl (h2 (0 : Int32) D)
theorem d_Hearers_wayTo_0 : decode Y_Hearers_wayTo.2.1 0 = .ok (.aload_n 0, 1) := by decide +kernel
theorem d_Hearers_wayTo_1 : decode Y_Hearers_wayTo.2.1 1 = .ok (.getfield 11, 3) := by decide +kernel
theorem d_Hearers_wayTo_4 : decode Y_Hearers_wayTo.2.1 4 = .ok (.iload_n 1, 1) := by decide +kernel
theorem d_Hearers_wayTo_5 : decode Y_Hearers_wayTo.2.1 5 = .ok (.iaload, 1) := by decide +kernel
theorem d_Hearers_wayTo_6 : decode Y_Hearers_wayTo.2.1 6 = .ok (.iload_n 2, 1) := by decide +kernel
theorem d_Hearers_wayTo_7 : decode Y_Hearers_wayTo.2.1 7 = .ok (.isub, 1) := by decide +kernel
theorem d_Hearers_wayTo_8 : decode Y_Hearers_wayTo.2.1 8 = .ok (.invokestatic 59, 3) := by decide +kernel
theorem d_Hearers_wayTo_11 : decode Y_Hearers_wayTo.2.1 11 = .ok (.aload_n 0, 1) := by decide +kernel
theorem d_Hearers_wayTo_12 : decode Y_Hearers_wayTo.2.1 12 = .ok (.getfield 15, 3) := by decide +kernel
theorem d_Hearers_wayTo_15 : decode Y_Hearers_wayTo.2.1 15 = .ok (.iload_n 1, 1) := by decide +kernel
theorem d_Hearers_wayTo_16 : decode Y_Hearers_wayTo.2.1 16 = .ok (.iaload, 1) := by decide +kernel
theorem d_Hearers_wayTo_17 : decode Y_Hearers_wayTo.2.1 17 = .ok (.iload_n 3, 1) := by decide +kernel
theorem d_Hearers_wayTo_18 : decode Y_Hearers_wayTo.2.1 18 = .ok (.isub, 1) := by decide +kernel
theorem d_Hearers_wayTo_19 : decode Y_Hearers_wayTo.2.1 19 = .ok (.invokestatic 59, 3) := by decide +kernel
theorem d_Hearers_wayTo_22 : decode Y_Hearers_wayTo.2.1 22 = .ok (.iadd, 1) := by decide +kernel
theorem d_Hearers_wayTo_23 : decode Y_Hearers_wayTo.2.1 23 = .ok (.ireturn, 1) := by decide +kernel
def f_Hearers_wayTo (w : zW) (D : zD) (a : Nat) (x1 : Int32) (x2 : Int32) (x3 : Int32) : Option (Int32 × zD) := zref w 4 0 a (fun p1 => zald w D 0 p1 x1 (fun v2 => zci (f_Math_abs w D (v2 - x2)) (fun v3 D4 => zref w 4 1 a (fun p5 => zald w D4 0 p5 x1 (fun v6 => zci (f_Math_abs w D4 (v6 - x3)) (fun v7 D8 => some (v3 + v7, D8)))))))
set_option maxHeartbeats 4000000 in
set_option maxRecDepth 100000 in
theorem c_Hearers_wayTo (z : zT) (D : zD) (a : Nat) (x1 : Int32) (x2 : Int32) (x3 : Int32) : zM Y_Hearers_wayTo 2 0 0 (zqI z) (f_Hearers_wayTo z.2 D a x1 x2 x3) [.ref a, .int x1, .int x2, .int x3] z D := by
  refine zM_of (plainFor_of_name (by decide +kernel)) rfl (Nat.le_of_ble_eq_true rfl) (fun _ _ _ _ h => nomatch h.1) (fun K => ?_)
  unfold f_Hearers_wayTo
  refine z_aload_n (pc := 0) d_Hearers_wayTo_0 rfl 0 rfl ?_
  refine z_getR (pc := 1) fl_Hearers_11 d_Hearers_wayTo_1 (fun p1 => ?_)
  refine z_iload_n (pc := 4) d_Hearers_wayTo_4 rfl 1 rfl ?_
  refine z_iaload (pc := 5) d_Hearers_wayTo_5 (fun v2 => ?_)
  refine z_iload_n (pc := 6) d_Hearers_wayTo_6 rfl 2 rfl ?_
  refine z_isub (pc := 7) d_Hearers_wayTo_7 ?_
  refine z_callSi (pc := 8) [.int (v2 - x2)] lkS_Hearers_59 (c_Math_abs z D (v2 - x2)) (by decide) rfl rfl (Nat.le_of_ble_eq_true rfl) d_Hearers_wayTo_8 (fun v3 D4 => ?_)
  refine z_aload_n (pc := 11) d_Hearers_wayTo_11 rfl 0 rfl ?_
  refine z_getR (pc := 12) fl_Hearers_15 d_Hearers_wayTo_12 (fun p5 => ?_)
  refine z_iload_n (pc := 15) d_Hearers_wayTo_15 rfl 1 rfl ?_
  refine z_iaload (pc := 16) d_Hearers_wayTo_16 (fun v6 => ?_)
  refine z_iload_n (pc := 17) d_Hearers_wayTo_17 rfl 3 rfl ?_
  refine z_isub (pc := 18) d_Hearers_wayTo_18 ?_
  refine z_callSi (pc := 19) [.int (v6 - x3)] lkS_Hearers_59 (c_Math_abs z D4 (v6 - x3)) (by decide) rfl rfl (Nat.le_of_ble_eq_true rfl) d_Hearers_wayTo_19 (fun v7 D8 => ?_)
  refine z_iadd (pc := 22) d_Hearers_wayTo_22 ?_
  exact z_iret (pc := 23) d_Hearers_wayTo_23 rfl
theorem d_Hearers_countBeats_0 : decode Y_Hearers_countBeats.2.1 0 = .ok (.iconst (0), 1) := by decide +kernel
theorem d_Hearers_countBeats_1 : decode Y_Hearers_countBeats.2.1 1 = .ok (.istore_n 1, 1) := by decide +kernel
theorem d_Hearers_countBeats_2 : decode Y_Hearers_countBeats.2.1 2 = .ok (.iload_n 1, 1) := by decide +kernel
theorem d_Hearers_countBeats_3 : decode Y_Hearers_countBeats.2.1 3 = .ok (.aload_n 0, 1) := by decide +kernel
theorem d_Hearers_countBeats_4 : decode Y_Hearers_countBeats.2.1 4 = .ok (.getfield 30, 3) := by decide +kernel
theorem d_Hearers_countBeats_7 : decode Y_Hearers_countBeats.2.1 7 = .ok (.if_icmp .ge (49), 3) := by decide +kernel
theorem d_Hearers_countBeats_10 : decode Y_Hearers_countBeats.2.1 10 = .ok (.aload_n 0, 1) := by decide +kernel
theorem d_Hearers_countBeats_11 : decode Y_Hearers_countBeats.2.1 11 = .ok (.getfield 27, 3) := by decide +kernel
theorem d_Hearers_countBeats_14 : decode Y_Hearers_countBeats.2.1 14 = .ok (.iload_n 1, 1) := by decide +kernel
theorem d_Hearers_countBeats_15 : decode Y_Hearers_countBeats.2.1 15 = .ok (.iaload, 1) := by decide +kernel
theorem d_Hearers_countBeats_16 : decode Y_Hearers_countBeats.2.1 16 = .ok (.invokestatic 63, 3) := by decide +kernel
theorem d_Hearers_countBeats_19 : decode Y_Hearers_countBeats.2.1 19 = .ok (.iconst (2), 1) := by decide +kernel
theorem d_Hearers_countBeats_20 : decode Y_Hearers_countBeats.2.1 20 = .ok (.if_icmp .lt (23), 3) := by decide +kernel
theorem d_Hearers_countBeats_23 : decode Y_Hearers_countBeats.2.1 23 = .ok (.aload_n 0, 1) := by decide +kernel
theorem d_Hearers_countBeats_24 : decode Y_Hearers_countBeats.2.1 24 = .ok (.getfield 24, 3) := by decide +kernel
theorem d_Hearers_countBeats_27 : decode Y_Hearers_countBeats.2.1 27 = .ok (.iload_n 1, 1) := by decide +kernel
theorem d_Hearers_countBeats_28 : decode Y_Hearers_countBeats.2.1 28 = .ok (.dup2, 1) := by decide +kernel
theorem d_Hearers_countBeats_29 : decode Y_Hearers_countBeats.2.1 29 = .ok (.iaload, 1) := by decide +kernel
theorem d_Hearers_countBeats_30 : decode Y_Hearers_countBeats.2.1 30 = .ok (.iconst (1), 1) := by decide +kernel
theorem d_Hearers_countBeats_31 : decode Y_Hearers_countBeats.2.1 31 = .ok (.iadd, 1) := by decide +kernel
theorem d_Hearers_countBeats_32 : decode Y_Hearers_countBeats.2.1 32 = .ok (.iastore, 1) := by decide +kernel
theorem d_Hearers_countBeats_33 : decode Y_Hearers_countBeats.2.1 33 = .ok (.aload_n 0, 1) := by decide +kernel
theorem d_Hearers_countBeats_34 : decode Y_Hearers_countBeats.2.1 34 = .ok (.dup, 1) := by decide +kernel
theorem d_Hearers_countBeats_35 : decode Y_Hearers_countBeats.2.1 35 = .ok (.getfield 34, 3) := by decide +kernel
theorem d_Hearers_countBeats_38 : decode Y_Hearers_countBeats.2.1 38 = .ok (.iconst (1), 1) := by decide +kernel
theorem d_Hearers_countBeats_39 : decode Y_Hearers_countBeats.2.1 39 = .ok (.iadd, 1) := by decide +kernel
theorem d_Hearers_countBeats_40 : decode Y_Hearers_countBeats.2.1 40 = .ok (.putfield 34, 3) := by decide +kernel
theorem d_Hearers_countBeats_43 : decode Y_Hearers_countBeats.2.1 43 = .ok (.aload_n 0, 1) := by decide +kernel
theorem d_Hearers_countBeats_44 : decode Y_Hearers_countBeats.2.1 44 = .ok (.getfield 27, 3) := by decide +kernel
theorem d_Hearers_countBeats_47 : decode Y_Hearers_countBeats.2.1 47 = .ok (.iload_n 1, 1) := by decide +kernel
theorem d_Hearers_countBeats_48 : decode Y_Hearers_countBeats.2.1 48 = .ok (.iconst (0), 1) := by decide +kernel
theorem d_Hearers_countBeats_49 : decode Y_Hearers_countBeats.2.1 49 = .ok (.iastore, 1) := by decide +kernel
theorem d_Hearers_countBeats_50 : decode Y_Hearers_countBeats.2.1 50 = .ok (.iinc 1 (1), 3) := by decide +kernel
theorem d_Hearers_countBeats_53 : decode Y_Hearers_countBeats.2.1 53 = .ok (.goto (-51), 3) := by decide +kernel
theorem d_Hearers_countBeats_56 : decode Y_Hearers_countBeats.2.1 56 = .ok (.return_, 1) := by decide +kernel
def f_Hearers_countBeats (w : zW) (D : zD) (a : Nat) : Option (zD) := zjp (zlp (fun (_ : Int32) (_ : zD) => none) (fun (j2 : Int32 → zD → Option (zD)) (x1 : Int32) (D1 : zD) => zfld w D1 4 6 a (fun v2 => (if v2 ≤ x1 then some D1 else zjp (fun (x1 : Int32) (D3 : zD) => zref w 4 5 a (fun p4 => zast w D3 0 p4 x1 (0 : Int32) (fun D5 => zlet (x1 + (1 : Int32)) (fun v6 => j2 v6 D5)))) (fun j43 => zref w 4 5 a (fun p7 => zald w D1 0 p7 x1 (fun v8 => zci (f_Integer_bitCount w D1 v8) (fun v9 D10 => (if v9 < (2 : Int32) then j43 x1 D10 else zref w 4 4 a (fun p11 => zald w D10 0 p11 x1 (fun v12 => zast w D10 0 p11 x1 (v12 + (1 : Int32)) (fun D13 => zfld w D13 4 7 a (fun v14 => zput w D13 4 7 a (v14 + (1 : Int32)) (fun D15 => j43 x1 D15))))))))))))) zfuel) (fun j2 => j2 (0 : Int32) D)
set_option maxHeartbeats 4000000 in
set_option maxRecDepth 100000 in
theorem c_Hearers_countBeats (z : zT) (D : zD) (a : Nat) : zM Y_Hearers_countBeats 2 0 0 (zqV z) (f_Hearers_countBeats z.2 D a) [.ref a] z D := by
  refine zM_of (plainFor_of_name (by decide +kernel)) rfl (Nat.le_of_ble_eq_true rfl) (fun _ _ _ _ h => nomatch h.1) (fun K => ?_)
  unfold f_Hearers_countBeats
  refine z_jp (fun j2 : Int32 → zD → Option (zD) => ∀ (x1 : Int32) (D1 : zD), zGO K Y_Hearers_countBeats 2 0 0 (zqV z) (j2 x1 D1) 0 0 z D1 2 [(0, .ref a), (1, .int x1)] []) (z_lp (fun j2 : Int32 → zD → Option (zD) => ∀ (x1 : Int32) (D1 : zD), zGO K Y_Hearers_countBeats 2 0 0 (zqV z) (j2 x1 D1) 0 0 z D1 2 [(0, .ref a), (1, .int x1)] []) (fun _ _ => z_none) (fun j2 h2 x1 D1 => ?_) zfuel) (fun j2 h2 => ?_)
  · refine z_iload_n (pc := 2) d_Hearers_countBeats_2 rfl 1 rfl ?_
    refine z_aload_n (pc := 3) d_Hearers_countBeats_3 rfl 0 rfl ?_
    refine z_getI (pc := 4) fl_Hearers_30 d_Hearers_countBeats_4 (fun v2 => ?_)
    refine z_icmp_ge (pc := 7) (tgt := 56) d_Hearers_countBeats_7 (by decide) ?_ ?_
    · exact z_vret (pc := 56) d_Hearers_countBeats_56 rfl
    · refine z_jp (fun j43 : Int32 → zD → Option (zD) => ∀ (x1 : Int32) (D3 : zD), zGO K Y_Hearers_countBeats 2 0 0 (zqV z) (j43 x1 D3) 0 0 z D3 43 [(0, .ref a), (1, .int x1)] []) (fun x1 D3 => ?_) (fun j43 h43 => ?_)
      · refine z_aload_n (pc := 43) d_Hearers_countBeats_43 rfl 0 rfl ?_
        refine z_getR (pc := 44) fl_Hearers_27 d_Hearers_countBeats_44 (fun p4 => ?_)
        refine z_iload_n (pc := 47) d_Hearers_countBeats_47 rfl 1 rfl ?_
        refine z_iconst (pc := 48) d_Hearers_countBeats_48 ki_0 ?_
        refine z_iastore (pc := 49) d_Hearers_countBeats_49 (fun D5 => ?_)
        refine z_iincL (pc := 50) d_Hearers_countBeats_50 ki_1 1 rfl (by decide) (fun v6 => z_lvc (lv2 := [(1, .int v6), (0, .ref a)]) rfl ?_)
        refine z_goto (pc := 53) (tgt := 2) d_Hearers_countBeats_53 (by decide) ?_
        exact z_sub [1, 0] rfl (h2 v6 D5)
      · refine z_aload_n (pc := 10) d_Hearers_countBeats_10 rfl 0 rfl ?_
        refine z_getR (pc := 11) fl_Hearers_27 d_Hearers_countBeats_11 (fun p7 => ?_)
        refine z_iload_n (pc := 14) d_Hearers_countBeats_14 rfl 1 rfl ?_
        refine z_iaload (pc := 15) d_Hearers_countBeats_15 (fun v8 => ?_)
        refine z_callSi (pc := 16) [.int v8] lkS_Hearers_63 (c_Integer_bitCount z D1 v8) (by decide) rfl rfl (Nat.le_of_ble_eq_true rfl) d_Hearers_countBeats_16 (fun v9 D10 => ?_)
        refine z_iconst (pc := 19) d_Hearers_countBeats_19 ki_2 ?_
        refine z_icmp_lt (pc := 20) (tgt := 43) d_Hearers_countBeats_20 (by decide) ?_ ?_
        · exact z_sub [0, 1] rfl (h43 x1 D10)
        · refine z_aload_n (pc := 23) d_Hearers_countBeats_23 rfl 0 rfl ?_
          refine z_getR (pc := 24) fl_Hearers_24 d_Hearers_countBeats_24 (fun p11 => ?_)
          refine z_iload_n (pc := 27) d_Hearers_countBeats_27 rfl 1 rfl ?_
          refine z_dup2 (pc := 28) d_Hearers_countBeats_28 rfl rfl ?_
          refine z_iaload (pc := 29) d_Hearers_countBeats_29 (fun v12 => ?_)
          refine z_iconst (pc := 30) d_Hearers_countBeats_30 ki_1 ?_
          refine z_iadd (pc := 31) d_Hearers_countBeats_31 ?_
          refine z_iastore (pc := 32) d_Hearers_countBeats_32 (fun D13 => ?_)
          refine z_aload_n (pc := 33) d_Hearers_countBeats_33 rfl 0 rfl ?_
          refine z_dup (pc := 34) d_Hearers_countBeats_34 rfl ?_
          refine z_getI (pc := 35) fl_Hearers_34 d_Hearers_countBeats_35 (fun v14 => ?_)
          refine z_iconst (pc := 38) d_Hearers_countBeats_38 ki_1 ?_
          refine z_iadd (pc := 39) d_Hearers_countBeats_39 ?_
          refine z_putI (pc := 40) fl_Hearers_34 d_Hearers_countBeats_40 (fun D15 => ?_)
          exact z_sub [0, 1] rfl (h43 x1 D15)
  · refine z_iconst (pc := 0) d_Hearers_countBeats_0 ki_0 ?_
    refine z_istore_n (pc := 1) d_Hearers_countBeats_1 rfl (by decide) (lv' := [(1, .int (0 : Int32)), (0, .ref a)]) rfl ?_
    exact z_sub [1, 0] rfl (h2 (0 : Int32) D)
