theorem kb_60 : (Int8.ofInt (60)).toInt32 = (60 : Int32) := by decide +kernel
def Y_Pulses_init : zY := (⟨"SirenFair$Pulses", "<init>", "()V"⟩, prog_6_method_1_code, 1, none, [])
theorem w_ml_Pulses_1 : Cond.methodLink "SirenFair$Pulses" 1 Lib.objectInit ∈ zWd := zin 187 (by decide +kernel) rfl
theorem w_fl_Pulses_9 : Cond.fieldLink "SirenFair$Pulses" 9 "SirenFair$Pulses" "siren" "[I" ∈ zWd := zin 188 (by decide +kernel) rfl
theorem in_Pulses : ∀ w ∈ u_ws "SirenFair$Pulses" T_Pulses 8, w ∈ zWd := by decide +kernel
theorem zc_Pulses : zcls 5 "SirenFair$Pulses" T_Pulses 8 ty_Pulses := ⟨rfl, in_Pulses, nm_Pulses, tyok_Pulses⟩
theorem fl_Pulses_9 : zfl "SirenFair$Pulses" 9 5 0 (.array (.int)) true := ⟨_, _, _, _, zc_Pulses, by decide, w_fl_Pulses_9, rfl, rfl, rfl⟩
theorem w_fl_Pulses_13 : Cond.fieldLink "SirenFair$Pulses" 13 "SirenFair$Pulses" "x" "[I" ∈ zWd := zin 191 (by decide +kernel) rfl
theorem fl_Pulses_13 : zfl "SirenFair$Pulses" 13 5 1 (.array (.int)) true := ⟨_, _, _, _, zc_Pulses, by decide, w_fl_Pulses_13, rfl, rfl, rfl⟩
theorem w_fl_Pulses_16 : Cond.fieldLink "SirenFair$Pulses" 16 "SirenFair$Pulses" "y" "[I" ∈ zWd := zin 194 (by decide +kernel) rfl
theorem fl_Pulses_16 : zfl "SirenFair$Pulses" 16 5 2 (.array (.int)) true := ⟨_, _, _, _, zc_Pulses, by decide, w_fl_Pulses_16, rfl, rfl, rfl⟩
theorem w_fl_Pulses_19 : Cond.fieldLink "SirenFair$Pulses" 19 "SirenFair$Pulses" "tick" "[I" ∈ zWd := zin 197 (by decide +kernel) rfl
theorem fl_Pulses_19 : zfl "SirenFair$Pulses" 19 5 3 (.array (.int)) true := ⟨_, _, _, _, zc_Pulses, by decide, w_fl_Pulses_19, rfl, rfl, rfl⟩
theorem w_fl_Pulses_22 : Cond.fieldLink "SirenFair$Pulses" 22 "SirenFair$Pulses" "wall" "[I" ∈ zWd := zin 200 (by decide +kernel) rfl
theorem fl_Pulses_22 : zfl "SirenFair$Pulses" 22 5 4 (.array (.int)) true := ⟨_, _, _, _, zc_Pulses, by decide, w_fl_Pulses_22, rfl, rfl, rfl⟩
theorem w_fl_Pulses_25 : Cond.fieldLink "SirenFair$Pulses" 25 "SirenFair$Pulses" "heardBy" "[I" ∈ zWd := zin 203 (by decide +kernel) rfl
theorem fl_Pulses_25 : zfl "SirenFair$Pulses" 25 5 5 (.array (.int)) true := ⟨_, _, _, _, zc_Pulses, by decide, w_fl_Pulses_25, rfl, rfl, rfl⟩
def Y_Pulses_copyFrom : zY := (⟨"SirenFair$Pulses", "copyFrom", "(LSirenFair$Pulses;)V"⟩, prog_6_method_2_code, 2, none, [])
theorem w_fl_Pulses_28 : Cond.fieldLink "SirenFair$Pulses" 28 "SirenFair$Pulses" "oldest" "I" ∈ zWd := zin 206 (by decide +kernel) rfl
theorem fl_Pulses_28 : zfl "SirenFair$Pulses" 28 5 6 (.int) false := ⟨_, _, _, _, zc_Pulses, by decide, w_fl_Pulses_28, rfl, rfl, rfl⟩
theorem w_fl_Pulses_32 : Cond.fieldLink "SirenFair$Pulses" 32 "SirenFair$Pulses" "count" "I" ∈ zWd := zin 207 (by decide +kernel) rfl
theorem fl_Pulses_32 : zfl "SirenFair$Pulses" 32 5 7 (.int) false := ⟨_, _, _, _, zc_Pulses, by decide, w_fl_Pulses_32, rfl, rfl, rfl⟩
theorem w_ml_Pulses_35 : Cond.methodLink "SirenFair$Pulses" 35 arraycopyName ∈ zWd := zin 465 (by decide +kernel) rfl
def Y_Pulses_rowOf : zY := (⟨"SirenFair$Pulses", "rowOf", "(I)I"⟩, prog_6_method_3_code, 2, some .int, [])
def Y_Pulses_move : zY := (⟨"SirenFair$Pulses", "move", "(II)V"⟩, prog_6_method_5_code, 3, none, [])
def Y_Ears_copyFrom : zY := (⟨"SirenFair$Ears", "copyFrom", "(LSirenFair$Ears;)V"⟩, prog_2_method_2_code, 2, none, [])
theorem w_fl_Ears_40 : Cond.fieldLink "SirenFair$Ears" 40 "SirenFair$Ears" "allDirect" "I" ∈ zWd := zin 248 (by decide +kernel) rfl
theorem in_Ears : ∀ w ∈ u_ws "SirenFair$Ears" T_Ears 9, w ∈ zWd := by decide +kernel
theorem zc_Ears : zcls 1 "SirenFair$Ears" T_Ears 9 ty_Ears := ⟨rfl, in_Ears, nm_Ears, tyok_Ears⟩
theorem fl_Ears_40 : zfl "SirenFair$Ears" 40 1 6 (.int) false := ⟨_, _, _, _, zc_Ears, by decide, w_fl_Ears_40, rfl, rfl, rfl⟩
theorem w_fl_Ears_44 : Cond.fieldLink "SirenFair$Ears" 44 "SirenFair$Ears" "allEchoes" "I" ∈ zWd := zin 250 (by decide +kernel) rfl
theorem fl_Ears_44 : zfl "SirenFair$Ears" 44 1 7 (.int) false := ⟨_, _, _, _, zc_Ears, by decide, w_fl_Ears_44, rfl, rfl, rfl⟩
theorem w_fl_Ears_47 : Cond.fieldLink "SirenFair$Ears" 47 "SirenFair$Ears" "allLate" "I" ∈ zWd := zin 252 (by decide +kernel) rfl
theorem fl_Ears_47 : zfl "SirenFair$Ears" 47 1 8 (.int) false := ⟨_, _, _, _, zc_Ears, by decide, w_fl_Ears_47, rfl, rfl, rfl⟩
theorem w_fl_Ears_15 : Cond.fieldLink "SirenFair$Ears" 15 "SirenFair$Ears" "direct" "[I" ∈ zWd := zin 236 (by decide +kernel) rfl
theorem fl_Ears_15 : zfl "SirenFair$Ears" 15 1 0 (.array (.int)) true := ⟨_, _, _, _, zc_Ears, by decide, w_fl_Ears_15, rfl, rfl, rfl⟩
theorem w_fl_Ears_19 : Cond.fieldLink "SirenFair$Ears" 19 "SirenFair$Ears" "echoes" "[I" ∈ zWd := zin 238 (by decide +kernel) rfl
theorem fl_Ears_19 : zfl "SirenFair$Ears" 19 1 1 (.array (.int)) true := ⟨_, _, _, _, zc_Ears, by decide, w_fl_Ears_19, rfl, rfl, rfl⟩
theorem w_fl_Ears_22 : Cond.fieldLink "SirenFair$Ears" 22 "SirenFair$Ears" "late" "[I" ∈ zWd := zin 240 (by decide +kernel) rfl
theorem fl_Ears_22 : zfl "SirenFair$Ears" 22 1 2 (.array (.int)) true := ⟨_, _, _, _, zc_Ears, by decide, w_fl_Ears_22, rfl, rfl, rfl⟩
theorem w_fl_Ears_25 : Cond.fieldLink "SirenFair$Ears" 25 "SirenFair$Ears" "latestTick" "[I" ∈ zWd := zin 242 (by decide +kernel) rfl
theorem fl_Ears_25 : zfl "SirenFair$Ears" 25 1 3 (.array (.int)) true := ⟨_, _, _, _, zc_Ears, by decide, w_fl_Ears_25, rfl, rfl, rfl⟩
theorem w_fl_Ears_28 : Cond.fieldLink "SirenFair$Ears" 28 "SirenFair$Ears" "pause" "[I" ∈ zWd := zin 244 (by decide +kernel) rfl
theorem fl_Ears_28 : zfl "SirenFair$Ears" 28 1 4 (.array (.int)) true := ⟨_, _, _, _, zc_Ears, by decide, w_fl_Ears_28, rfl, rfl, rfl⟩
theorem w_fl_Ears_31 : Cond.fieldLink "SirenFair$Ears" 31 "SirenFair$Ears" "latestGiven" "[I" ∈ zWd := zin 247 (by decide +kernel) rfl
theorem fl_Ears_31 : zfl "SirenFair$Ears" 31 1 5 (.array (.int)) true := ⟨_, _, _, _, zc_Ears, by decide, w_fl_Ears_31, rfl, rfl, rfl⟩
theorem w_ml_Ears_50 : Cond.methodLink "SirenFair$Ears" 50 arraycopyName ∈ zWd := zin 470 (by decide +kernel) rfl
def Y_Ears_pairOf : zY := (⟨"SirenFair$Ears", "pairOf", "(II)I"⟩, prog_2_method_3_code, 2, some .int, [])
def Y_Ears_hearEcho : zY := (⟨"SirenFair$Ears", "hearEcho", "(I)V"⟩, prog_2_method_4_code, 2, none, [])
def Y_Ears_hearDirect : zY := (⟨"SirenFair$Ears", "hearDirect", "(III)V"⟩, prog_2_method_5_code, 4, none, [])
def Y_Pulses_add : zY := (⟨"SirenFair$Pulses", "add", "(IIIII)V"⟩, prog_6_method_4_code, 7, none, [])
theorem w_c_Pulses_rowOf : Cond.code Y_Pulses_rowOf.1 Y_Pulses_rowOf.2.1 Y_Pulses_rowOf.2.2.1 Y_Pulses_rowOf.2.2.2.1 ∈ zWd := zin 636 (by decide +kernel) rfl
theorem w_ini_Pulses : Cond.initialized "SirenFair$Pulses" ∈ zWd := zin 22 (by decide +kernel) rfl
theorem lk_Pulses_rowOf : zlk Y_Pulses_rowOf 1 := ⟨w_c_Pulses_rowOf, w_ini_Pulses, by decide +kernel, by decide +kernel, by decide⟩
theorem w_ml_Pulses_41 : Cond.methodLink "SirenFair$Pulses" 41 Y_Pulses_rowOf.1 ∈ zWd := zin 633 (by decide +kernel) rfl
theorem w_im_Pulses_rowOf : Cond.instanceMethod Y_Pulses_rowOf.1 ∈ zWd := zin 634 (by decide +kernel) rfl
theorem w_sel_Pulses_rowOf : Cond.selects "SirenFair$Pulses" Y_Pulses_rowOf.1 Y_Pulses_rowOf.1 ∈ zWd := zin 635 (by decide +kernel) rfl
theorem lkV_Pulses_41 : zlkV "SirenFair$Pulses" 41 Y_Pulses_rowOf 1 := ⟨lk_Pulses_rowOf, w_ml_Pulses_41, w_im_Pulses_rowOf, w_sel_Pulses_rowOf⟩
def Y_Ears_init : zY := (⟨"SirenFair$Ears", "<init>", "()V"⟩, prog_2_method_1_code, 1, none, [])
theorem w_ml_Ears_7 : Cond.methodLink "SirenFair$Ears" 7 Lib.objectInit ∈ zWd := zin 232 (by decide +kernel) rfl
theorem w_c_Arrays_fill : Cond.code Y_Arrays_fill.1 Y_Arrays_fill.2.1 Y_Arrays_fill.2.2.1 Y_Arrays_fill.2.2.2.1 ∈ zWd := zin 235 (by decide +kernel) rfl
theorem w_ini_Arrays : Cond.initialized "java/util/Arrays" ∈ zWd := zin 24 (by decide +kernel) rfl
theorem lk_Arrays_fill : zlk Y_Arrays_fill 2 := ⟨w_c_Arrays_fill, w_ini_Arrays, by decide +kernel, by decide +kernel, by decide⟩
theorem w_ml_Ears_34 : Cond.methodLink "SirenFair$Ears" 34 Y_Arrays_fill.1 ∈ zWd := zin 233 (by decide +kernel) rfl
theorem w_st_Arrays_fill : Cond.static Y_Arrays_fill.1 ∈ zWd := zin 234 (by decide +kernel) rfl
theorem lkS_Ears_34 : zlkS "SirenFair$Ears" 34 Y_Arrays_fill 2 := ⟨lk_Arrays_fill, w_ml_Ears_34, w_st_Arrays_fill⟩
theorem d_Pulses_init_0 : decode Y_Pulses_init.2.1 0 = .ok (.aload_n 0, 1) := by decide +kernel
theorem d_Pulses_init_1 : decode Y_Pulses_init.2.1 1 = .ok (.invokespecial 1, 3) := by decide +kernel
theorem d_Pulses_init_4 : decode Y_Pulses_init.2.1 4 = .ok (.aload_n 0, 1) := by decide +kernel
theorem d_Pulses_init_5 : decode Y_Pulses_init.2.1 5 = .ok (.bipush (60), 2) := by decide +kernel
theorem d_Pulses_init_7 : decode Y_Pulses_init.2.1 7 = .ok (.newarray .int, 2) := by decide +kernel
theorem d_Pulses_init_9 : decode Y_Pulses_init.2.1 9 = .ok (.putfield 9, 3) := by decide +kernel
theorem d_Pulses_init_12 : decode Y_Pulses_init.2.1 12 = .ok (.aload_n 0, 1) := by decide +kernel
theorem d_Pulses_init_13 : decode Y_Pulses_init.2.1 13 = .ok (.bipush (60), 2) := by decide +kernel
theorem d_Pulses_init_15 : decode Y_Pulses_init.2.1 15 = .ok (.newarray .int, 2) := by decide +kernel
theorem d_Pulses_init_17 : decode Y_Pulses_init.2.1 17 = .ok (.putfield 13, 3) := by decide +kernel
theorem d_Pulses_init_20 : decode Y_Pulses_init.2.1 20 = .ok (.aload_n 0, 1) := by decide +kernel
theorem d_Pulses_init_21 : decode Y_Pulses_init.2.1 21 = .ok (.bipush (60), 2) := by decide +kernel
theorem d_Pulses_init_23 : decode Y_Pulses_init.2.1 23 = .ok (.newarray .int, 2) := by decide +kernel
theorem d_Pulses_init_25 : decode Y_Pulses_init.2.1 25 = .ok (.putfield 16, 3) := by decide +kernel
theorem d_Pulses_init_28 : decode Y_Pulses_init.2.1 28 = .ok (.aload_n 0, 1) := by decide +kernel
theorem d_Pulses_init_29 : decode Y_Pulses_init.2.1 29 = .ok (.bipush (60), 2) := by decide +kernel
theorem d_Pulses_init_31 : decode Y_Pulses_init.2.1 31 = .ok (.newarray .int, 2) := by decide +kernel
theorem d_Pulses_init_33 : decode Y_Pulses_init.2.1 33 = .ok (.putfield 19, 3) := by decide +kernel
theorem d_Pulses_init_36 : decode Y_Pulses_init.2.1 36 = .ok (.aload_n 0, 1) := by decide +kernel
theorem d_Pulses_init_37 : decode Y_Pulses_init.2.1 37 = .ok (.bipush (60), 2) := by decide +kernel
theorem d_Pulses_init_39 : decode Y_Pulses_init.2.1 39 = .ok (.newarray .int, 2) := by decide +kernel
theorem d_Pulses_init_41 : decode Y_Pulses_init.2.1 41 = .ok (.putfield 22, 3) := by decide +kernel
theorem d_Pulses_init_44 : decode Y_Pulses_init.2.1 44 = .ok (.aload_n 0, 1) := by decide +kernel
theorem d_Pulses_init_45 : decode Y_Pulses_init.2.1 45 = .ok (.bipush (60), 2) := by decide +kernel
theorem d_Pulses_init_47 : decode Y_Pulses_init.2.1 47 = .ok (.newarray .int, 2) := by decide +kernel
theorem d_Pulses_init_49 : decode Y_Pulses_init.2.1 49 = .ok (.putfield 25, 3) := by decide +kernel
theorem d_Pulses_init_52 : decode Y_Pulses_init.2.1 52 = .ok (.return_, 1) := by decide +kernel
def f_Pulses_init (z : zT) (D : zD) (a : Nat) : Option (zT × zD) := znew z D (.inl (0, 60)) (fun q1 z2 D3 => zputR z2 5 0 a q1 (fun z4 => znew z4 D3 (.inl (0, 60)) (fun q5 z6 D7 => zputR z6 5 1 a q5 (fun z8 => znew z8 D7 (.inl (0, 60)) (fun q9 z10 D11 => zputR z10 5 2 a q9 (fun z12 => znew z12 D11 (.inl (0, 60)) (fun q13 z14 D15 => zputR z14 5 3 a q13 (fun z16 => znew z16 D15 (.inl (0, 60)) (fun q17 z18 D19 => zputR z18 5 4 a q17 (fun z20 => znew z20 D19 (.inl (0, 60)) (fun q21 z22 D23 => zputR z22 5 5 a q21 (fun z24 => some (z24, D23)))))))))))))
set_option maxHeartbeats 4000000 in
set_option maxRecDepth 100000 in
theorem c_Pulses_init (z : zT) (D : zD) (a : Nat) : zM Y_Pulses_init 1 6 360 zqC (f_Pulses_init z D a) [.ref a] z D := by
  refine zM_of (plainFor_of_name (by decide +kernel)) rfl (Nat.le_of_ble_eq_true rfl) (fun _ _ _ _ h => nomatch h.1) (fun K => ?_)
  unfold f_Pulses_init
  refine z_aload_n (pc := 0) d_Pulses_init_0 rfl 0 rfl ?_
  refine z_objInit (pc := 1) w_ml_Pulses_1 w_oi1 w_oi2 (by decide) (Nat.le_of_ble_eq_true rfl) d_Pulses_init_1 ?_
  refine z_aload_n (pc := 4) d_Pulses_init_4 rfl 0 rfl ?_
  refine z_bipush (pc := 5) d_Pulses_init_5 kb_60 ?_
  refine z_newI (pc := 7) (kc2 := 5) (ks2 := 300) w_ac_int (by decide) (by decide) (Nat.le_of_ble_eq_true rfl) (by decide) (by decide) d_Pulses_init_7 (fun q1 z2 D3 => ?_)
  refine z_putR (pc := 9) fl_Pulses_9 rfl (fun _ _ _ h => by cases h; rfl) (Or.inr ⟨_, rfl⟩) d_Pulses_init_9 (fun z4 => ?_)
  refine z_aload_n (pc := 12) d_Pulses_init_12 rfl 0 rfl ?_
  refine z_bipush (pc := 13) d_Pulses_init_13 kb_60 ?_
  refine z_newI (pc := 15) (kc2 := 4) (ks2 := 240) w_ac_int (by decide) (by decide) (Nat.le_of_ble_eq_true rfl) (by decide) (by decide) d_Pulses_init_15 (fun q5 z6 D7 => ?_)
  refine z_putR (pc := 17) fl_Pulses_13 rfl (fun _ _ _ h => by cases h; rfl) (Or.inr ⟨_, rfl⟩) d_Pulses_init_17 (fun z8 => ?_)
  refine z_aload_n (pc := 20) d_Pulses_init_20 rfl 0 rfl ?_
  refine z_bipush (pc := 21) d_Pulses_init_21 kb_60 ?_
  refine z_newI (pc := 23) (kc2 := 3) (ks2 := 180) w_ac_int (by decide) (by decide) (Nat.le_of_ble_eq_true rfl) (by decide) (by decide) d_Pulses_init_23 (fun q9 z10 D11 => ?_)
  refine z_putR (pc := 25) fl_Pulses_16 rfl (fun _ _ _ h => by cases h; rfl) (Or.inr ⟨_, rfl⟩) d_Pulses_init_25 (fun z12 => ?_)
  refine z_aload_n (pc := 28) d_Pulses_init_28 rfl 0 rfl ?_
  refine z_bipush (pc := 29) d_Pulses_init_29 kb_60 ?_
  refine z_newI (pc := 31) (kc2 := 2) (ks2 := 120) w_ac_int (by decide) (by decide) (Nat.le_of_ble_eq_true rfl) (by decide) (by decide) d_Pulses_init_31 (fun q13 z14 D15 => ?_)
  refine z_putR (pc := 33) fl_Pulses_19 rfl (fun _ _ _ h => by cases h; rfl) (Or.inr ⟨_, rfl⟩) d_Pulses_init_33 (fun z16 => ?_)
  refine z_aload_n (pc := 36) d_Pulses_init_36 rfl 0 rfl ?_
  refine z_bipush (pc := 37) d_Pulses_init_37 kb_60 ?_
  refine z_newI (pc := 39) (kc2 := 1) (ks2 := 60) w_ac_int (by decide) (by decide) (Nat.le_of_ble_eq_true rfl) (by decide) (by decide) d_Pulses_init_39 (fun q17 z18 D19 => ?_)
  refine z_putR (pc := 41) fl_Pulses_22 rfl (fun _ _ _ h => by cases h; rfl) (Or.inr ⟨_, rfl⟩) d_Pulses_init_41 (fun z20 => ?_)
  refine z_aload_n (pc := 44) d_Pulses_init_44 rfl 0 rfl ?_
  refine z_bipush (pc := 45) d_Pulses_init_45 kb_60 ?_
  refine z_newI (pc := 47) (kc2 := 0) (ks2 := 0) w_ac_int (by decide) (by decide) (Nat.le_of_ble_eq_true rfl) (by decide) (by decide) d_Pulses_init_47 (fun q21 z22 D23 => ?_)
  refine z_putR (pc := 49) fl_Pulses_25 rfl (fun _ _ _ h => by cases h; rfl) (Or.inr ⟨_, rfl⟩) d_Pulses_init_49 (fun z24 => ?_)
  exact z_cret (pc := 52) d_Pulses_init_52 rfl
theorem d_Pulses_copyFrom_0 : decode Y_Pulses_copyFrom.2.1 0 = .ok (.aload_n 0, 1) := by decide +kernel
theorem d_Pulses_copyFrom_1 : decode Y_Pulses_copyFrom.2.1 1 = .ok (.aload_n 1, 1) := by decide +kernel
theorem d_Pulses_copyFrom_2 : decode Y_Pulses_copyFrom.2.1 2 = .ok (.getfield 28, 3) := by decide +kernel
theorem d_Pulses_copyFrom_5 : decode Y_Pulses_copyFrom.2.1 5 = .ok (.putfield 28, 3) := by decide +kernel
theorem d_Pulses_copyFrom_8 : decode Y_Pulses_copyFrom.2.1 8 = .ok (.aload_n 0, 1) := by decide +kernel
theorem d_Pulses_copyFrom_9 : decode Y_Pulses_copyFrom.2.1 9 = .ok (.aload_n 1, 1) := by decide +kernel
theorem d_Pulses_copyFrom_10 : decode Y_Pulses_copyFrom.2.1 10 = .ok (.getfield 32, 3) := by decide +kernel
theorem d_Pulses_copyFrom_13 : decode Y_Pulses_copyFrom.2.1 13 = .ok (.putfield 32, 3) := by decide +kernel
theorem d_Pulses_copyFrom_16 : decode Y_Pulses_copyFrom.2.1 16 = .ok (.aload_n 1, 1) := by decide +kernel
theorem d_Pulses_copyFrom_17 : decode Y_Pulses_copyFrom.2.1 17 = .ok (.getfield 9, 3) := by decide +kernel
theorem d_Pulses_copyFrom_20 : decode Y_Pulses_copyFrom.2.1 20 = .ok (.iconst (0), 1) := by decide +kernel
theorem d_Pulses_copyFrom_21 : decode Y_Pulses_copyFrom.2.1 21 = .ok (.aload_n 0, 1) := by decide +kernel
theorem d_Pulses_copyFrom_22 : decode Y_Pulses_copyFrom.2.1 22 = .ok (.getfield 9, 3) := by decide +kernel
theorem d_Pulses_copyFrom_25 : decode Y_Pulses_copyFrom.2.1 25 = .ok (.iconst (0), 1) := by decide +kernel
theorem d_Pulses_copyFrom_26 : decode Y_Pulses_copyFrom.2.1 26 = .ok (.bipush (60), 2) := by decide +kernel
theorem d_Pulses_copyFrom_28 : decode Y_Pulses_copyFrom.2.1 28 = .ok (.invokestatic 35, 3) := by decide +kernel
theorem d_Pulses_copyFrom_31 : decode Y_Pulses_copyFrom.2.1 31 = .ok (.aload_n 1, 1) := by decide +kernel
theorem d_Pulses_copyFrom_32 : decode Y_Pulses_copyFrom.2.1 32 = .ok (.getfield 13, 3) := by decide +kernel
theorem d_Pulses_copyFrom_35 : decode Y_Pulses_copyFrom.2.1 35 = .ok (.iconst (0), 1) := by decide +kernel
theorem d_Pulses_copyFrom_36 : decode Y_Pulses_copyFrom.2.1 36 = .ok (.aload_n 0, 1) := by decide +kernel
theorem d_Pulses_copyFrom_37 : decode Y_Pulses_copyFrom.2.1 37 = .ok (.getfield 13, 3) := by decide +kernel
theorem d_Pulses_copyFrom_40 : decode Y_Pulses_copyFrom.2.1 40 = .ok (.iconst (0), 1) := by decide +kernel
theorem d_Pulses_copyFrom_41 : decode Y_Pulses_copyFrom.2.1 41 = .ok (.bipush (60), 2) := by decide +kernel
theorem d_Pulses_copyFrom_43 : decode Y_Pulses_copyFrom.2.1 43 = .ok (.invokestatic 35, 3) := by decide +kernel
theorem d_Pulses_copyFrom_46 : decode Y_Pulses_copyFrom.2.1 46 = .ok (.aload_n 1, 1) := by decide +kernel
theorem d_Pulses_copyFrom_47 : decode Y_Pulses_copyFrom.2.1 47 = .ok (.getfield 16, 3) := by decide +kernel
theorem d_Pulses_copyFrom_50 : decode Y_Pulses_copyFrom.2.1 50 = .ok (.iconst (0), 1) := by decide +kernel
theorem d_Pulses_copyFrom_51 : decode Y_Pulses_copyFrom.2.1 51 = .ok (.aload_n 0, 1) := by decide +kernel
theorem d_Pulses_copyFrom_52 : decode Y_Pulses_copyFrom.2.1 52 = .ok (.getfield 16, 3) := by decide +kernel
theorem d_Pulses_copyFrom_55 : decode Y_Pulses_copyFrom.2.1 55 = .ok (.iconst (0), 1) := by decide +kernel
theorem d_Pulses_copyFrom_56 : decode Y_Pulses_copyFrom.2.1 56 = .ok (.bipush (60), 2) := by decide +kernel
theorem d_Pulses_copyFrom_58 : decode Y_Pulses_copyFrom.2.1 58 = .ok (.invokestatic 35, 3) := by decide +kernel
theorem d_Pulses_copyFrom_61 : decode Y_Pulses_copyFrom.2.1 61 = .ok (.aload_n 1, 1) := by decide +kernel
theorem d_Pulses_copyFrom_62 : decode Y_Pulses_copyFrom.2.1 62 = .ok (.getfield 19, 3) := by decide +kernel
theorem d_Pulses_copyFrom_65 : decode Y_Pulses_copyFrom.2.1 65 = .ok (.iconst (0), 1) := by decide +kernel
theorem d_Pulses_copyFrom_66 : decode Y_Pulses_copyFrom.2.1 66 = .ok (.aload_n 0, 1) := by decide +kernel
theorem d_Pulses_copyFrom_67 : decode Y_Pulses_copyFrom.2.1 67 = .ok (.getfield 19, 3) := by decide +kernel
theorem d_Pulses_copyFrom_70 : decode Y_Pulses_copyFrom.2.1 70 = .ok (.iconst (0), 1) := by decide +kernel
theorem d_Pulses_copyFrom_71 : decode Y_Pulses_copyFrom.2.1 71 = .ok (.bipush (60), 2) := by decide +kernel
theorem d_Pulses_copyFrom_73 : decode Y_Pulses_copyFrom.2.1 73 = .ok (.invokestatic 35, 3) := by decide +kernel
theorem d_Pulses_copyFrom_76 : decode Y_Pulses_copyFrom.2.1 76 = .ok (.aload_n 1, 1) := by decide +kernel
theorem d_Pulses_copyFrom_77 : decode Y_Pulses_copyFrom.2.1 77 = .ok (.getfield 22, 3) := by decide +kernel
theorem d_Pulses_copyFrom_80 : decode Y_Pulses_copyFrom.2.1 80 = .ok (.iconst (0), 1) := by decide +kernel
theorem d_Pulses_copyFrom_81 : decode Y_Pulses_copyFrom.2.1 81 = .ok (.aload_n 0, 1) := by decide +kernel
theorem d_Pulses_copyFrom_82 : decode Y_Pulses_copyFrom.2.1 82 = .ok (.getfield 22, 3) := by decide +kernel
theorem d_Pulses_copyFrom_85 : decode Y_Pulses_copyFrom.2.1 85 = .ok (.iconst (0), 1) := by decide +kernel
theorem d_Pulses_copyFrom_86 : decode Y_Pulses_copyFrom.2.1 86 = .ok (.bipush (60), 2) := by decide +kernel
theorem d_Pulses_copyFrom_88 : decode Y_Pulses_copyFrom.2.1 88 = .ok (.invokestatic 35, 3) := by decide +kernel
theorem d_Pulses_copyFrom_91 : decode Y_Pulses_copyFrom.2.1 91 = .ok (.aload_n 1, 1) := by decide +kernel
theorem d_Pulses_copyFrom_92 : decode Y_Pulses_copyFrom.2.1 92 = .ok (.getfield 25, 3) := by decide +kernel
theorem d_Pulses_copyFrom_95 : decode Y_Pulses_copyFrom.2.1 95 = .ok (.iconst (0), 1) := by decide +kernel
theorem d_Pulses_copyFrom_96 : decode Y_Pulses_copyFrom.2.1 96 = .ok (.aload_n 0, 1) := by decide +kernel
theorem d_Pulses_copyFrom_97 : decode Y_Pulses_copyFrom.2.1 97 = .ok (.getfield 25, 3) := by decide +kernel
theorem d_Pulses_copyFrom_100 : decode Y_Pulses_copyFrom.2.1 100 = .ok (.iconst (0), 1) := by decide +kernel
theorem d_Pulses_copyFrom_101 : decode Y_Pulses_copyFrom.2.1 101 = .ok (.bipush (60), 2) := by decide +kernel
theorem d_Pulses_copyFrom_103 : decode Y_Pulses_copyFrom.2.1 103 = .ok (.invokestatic 35, 3) := by decide +kernel
theorem d_Pulses_copyFrom_106 : decode Y_Pulses_copyFrom.2.1 106 = .ok (.return_, 1) := by decide +kernel
def f_Pulses_copyFrom (w : zW) (D : zD) (a : Nat) (r1 : Nat) : Option (zD) := zfld w D 5 6 r1 (fun v1 => zput w D 5 6 a v1 (fun D2 => zfld w D2 5 7 r1 (fun v3 => zput w D2 5 7 a v3 (fun D4 => zref w 5 0 r1 (fun p5 => zref w 5 0 a (fun p6 => zcpy w D4 0 p5 (0 : Int32) p6 (0 : Int32) (60 : Int32) (fun D7 => zref w 5 1 r1 (fun p8 => zref w 5 1 a (fun p9 => zcpy w D7 0 p8 (0 : Int32) p9 (0 : Int32) (60 : Int32) (fun D10 => zref w 5 2 r1 (fun p11 => zref w 5 2 a (fun p12 => zcpy w D10 0 p11 (0 : Int32) p12 (0 : Int32) (60 : Int32) (fun D13 => zref w 5 3 r1 (fun p14 => zref w 5 3 a (fun p15 => zcpy w D13 0 p14 (0 : Int32) p15 (0 : Int32) (60 : Int32) (fun D16 => zref w 5 4 r1 (fun p17 => zref w 5 4 a (fun p18 => zcpy w D16 0 p17 (0 : Int32) p18 (0 : Int32) (60 : Int32) (fun D19 => zref w 5 5 r1 (fun p20 => zref w 5 5 a (fun p21 => zcpy w D19 0 p20 (0 : Int32) p21 (0 : Int32) (60 : Int32) (fun D22 => some D22))))))))))))))))))))))
set_option maxHeartbeats 4000000 in
set_option maxRecDepth 100000 in
theorem c_Pulses_copyFrom (z : zT) (D : zD) (a : Nat) (r1 : Nat) : zM Y_Pulses_copyFrom 1 0 0 (zqV z) (f_Pulses_copyFrom z.2 D a r1) [.ref a, .ref r1] z D := by
  refine zM_of (plainFor_of_name (by decide +kernel)) rfl (Nat.le_of_ble_eq_true rfl) (fun _ _ _ _ h => nomatch h.1) (fun K => ?_)
  unfold f_Pulses_copyFrom
  refine z_aload_n (pc := 0) d_Pulses_copyFrom_0 rfl 0 rfl ?_
  refine z_aload_n (pc := 1) d_Pulses_copyFrom_1 rfl 1 rfl ?_
  refine z_getI (pc := 2) fl_Pulses_28 d_Pulses_copyFrom_2 (fun v1 => ?_)
  refine z_putI (pc := 5) fl_Pulses_28 d_Pulses_copyFrom_5 (fun D2 => ?_)
  refine z_aload_n (pc := 8) d_Pulses_copyFrom_8 rfl 0 rfl ?_
  refine z_aload_n (pc := 9) d_Pulses_copyFrom_9 rfl 1 rfl ?_
  refine z_getI (pc := 10) fl_Pulses_32 d_Pulses_copyFrom_10 (fun v3 => ?_)
  refine z_putI (pc := 13) fl_Pulses_32 d_Pulses_copyFrom_13 (fun D4 => ?_)
  refine z_aload_n (pc := 16) d_Pulses_copyFrom_16 rfl 1 rfl ?_
  refine z_getR (pc := 17) fl_Pulses_9 d_Pulses_copyFrom_17 (fun p5 => ?_)
  refine z_iconst (pc := 20) d_Pulses_copyFrom_20 ki_0 ?_
  refine z_aload_n (pc := 21) d_Pulses_copyFrom_21 rfl 0 rfl ?_
  refine z_getR (pc := 22) fl_Pulses_9 d_Pulses_copyFrom_22 (fun p6 => ?_)
  refine z_iconst (pc := 25) d_Pulses_copyFrom_25 ki_0 ?_
  refine z_bipush (pc := 26) d_Pulses_copyFrom_26 kb_60 ?_
  refine z_copyi (pc := 28) w_ml_Pulses_35 w_acn w_acs w_ini_System 0 (by decide) (by decide) (Nat.le_of_ble_eq_true rfl) d_Pulses_copyFrom_28 (fun D7 => ?_)
  refine z_aload_n (pc := 31) d_Pulses_copyFrom_31 rfl 1 rfl ?_
  refine z_getR (pc := 32) fl_Pulses_13 d_Pulses_copyFrom_32 (fun p8 => ?_)
  refine z_iconst (pc := 35) d_Pulses_copyFrom_35 ki_0 ?_
  refine z_aload_n (pc := 36) d_Pulses_copyFrom_36 rfl 0 rfl ?_
  refine z_getR (pc := 37) fl_Pulses_13 d_Pulses_copyFrom_37 (fun p9 => ?_)
  refine z_iconst (pc := 40) d_Pulses_copyFrom_40 ki_0 ?_
  refine z_bipush (pc := 41) d_Pulses_copyFrom_41 kb_60 ?_
  refine z_copyi (pc := 43) w_ml_Pulses_35 w_acn w_acs w_ini_System 0 (by decide) (by decide) (Nat.le_of_ble_eq_true rfl) d_Pulses_copyFrom_43 (fun D10 => ?_)
  refine z_aload_n (pc := 46) d_Pulses_copyFrom_46 rfl 1 rfl ?_
  refine z_getR (pc := 47) fl_Pulses_16 d_Pulses_copyFrom_47 (fun p11 => ?_)
  refine z_iconst (pc := 50) d_Pulses_copyFrom_50 ki_0 ?_
  refine z_aload_n (pc := 51) d_Pulses_copyFrom_51 rfl 0 rfl ?_
  refine z_getR (pc := 52) fl_Pulses_16 d_Pulses_copyFrom_52 (fun p12 => ?_)
  refine z_iconst (pc := 55) d_Pulses_copyFrom_55 ki_0 ?_
  refine z_bipush (pc := 56) d_Pulses_copyFrom_56 kb_60 ?_
  refine z_copyi (pc := 58) w_ml_Pulses_35 w_acn w_acs w_ini_System 0 (by decide) (by decide) (Nat.le_of_ble_eq_true rfl) d_Pulses_copyFrom_58 (fun D13 => ?_)
  refine z_aload_n (pc := 61) d_Pulses_copyFrom_61 rfl 1 rfl ?_
  refine z_getR (pc := 62) fl_Pulses_19 d_Pulses_copyFrom_62 (fun p14 => ?_)
  refine z_iconst (pc := 65) d_Pulses_copyFrom_65 ki_0 ?_
  refine z_aload_n (pc := 66) d_Pulses_copyFrom_66 rfl 0 rfl ?_
  refine z_getR (pc := 67) fl_Pulses_19 d_Pulses_copyFrom_67 (fun p15 => ?_)
  refine z_iconst (pc := 70) d_Pulses_copyFrom_70 ki_0 ?_
  refine z_bipush (pc := 71) d_Pulses_copyFrom_71 kb_60 ?_
  refine z_copyi (pc := 73) w_ml_Pulses_35 w_acn w_acs w_ini_System 0 (by decide) (by decide) (Nat.le_of_ble_eq_true rfl) d_Pulses_copyFrom_73 (fun D16 => ?_)
  refine z_aload_n (pc := 76) d_Pulses_copyFrom_76 rfl 1 rfl ?_
  refine z_getR (pc := 77) fl_Pulses_22 d_Pulses_copyFrom_77 (fun p17 => ?_)
  refine z_iconst (pc := 80) d_Pulses_copyFrom_80 ki_0 ?_
  refine z_aload_n (pc := 81) d_Pulses_copyFrom_81 rfl 0 rfl ?_
  refine z_getR (pc := 82) fl_Pulses_22 d_Pulses_copyFrom_82 (fun p18 => ?_)
  refine z_iconst (pc := 85) d_Pulses_copyFrom_85 ki_0 ?_
  refine z_bipush (pc := 86) d_Pulses_copyFrom_86 kb_60 ?_
  refine z_copyi (pc := 88) w_ml_Pulses_35 w_acn w_acs w_ini_System 0 (by decide) (by decide) (Nat.le_of_ble_eq_true rfl) d_Pulses_copyFrom_88 (fun D19 => ?_)
  refine z_aload_n (pc := 91) d_Pulses_copyFrom_91 rfl 1 rfl ?_
  refine z_getR (pc := 92) fl_Pulses_25 d_Pulses_copyFrom_92 (fun p20 => ?_)
  refine z_iconst (pc := 95) d_Pulses_copyFrom_95 ki_0 ?_
  refine z_aload_n (pc := 96) d_Pulses_copyFrom_96 rfl 0 rfl ?_
  refine z_getR (pc := 97) fl_Pulses_25 d_Pulses_copyFrom_97 (fun p21 => ?_)
  refine z_iconst (pc := 100) d_Pulses_copyFrom_100 ki_0 ?_
  refine z_bipush (pc := 101) d_Pulses_copyFrom_101 kb_60 ?_
  refine z_copyi (pc := 103) w_ml_Pulses_35 w_acn w_acs w_ini_System 0 (by decide) (by decide) (Nat.le_of_ble_eq_true rfl) d_Pulses_copyFrom_103 (fun D22 => ?_)
  exact z_vret (pc := 106) d_Pulses_copyFrom_106 rfl
theorem d_Pulses_rowOf_0 : decode Y_Pulses_rowOf.2.1 0 = .ok (.aload_n 0, 1) := by decide +kernel
theorem d_Pulses_rowOf_1 : decode Y_Pulses_rowOf.2.1 1 = .ok (.getfield 28, 3) := by decide +kernel
theorem d_Pulses_rowOf_4 : decode Y_Pulses_rowOf.2.1 4 = .ok (.iload_n 1, 1) := by decide +kernel
theorem d_Pulses_rowOf_5 : decode Y_Pulses_rowOf.2.1 5 = .ok (.iadd, 1) := by decide +kernel
theorem d_Pulses_rowOf_6 : decode Y_Pulses_rowOf.2.1 6 = .ok (.bipush (60), 2) := by decide +kernel
theorem d_Pulses_rowOf_8 : decode Y_Pulses_rowOf.2.1 8 = .ok (.irem, 1) := by decide +kernel
theorem d_Pulses_rowOf_9 : decode Y_Pulses_rowOf.2.1 9 = .ok (.ireturn, 1) := by decide +kernel
def f_Pulses_rowOf (w : zW) (D : zD) (a : Nat) (x1 : Int32) : Option (Int32 × zD) := zfld w D 5 6 a (fun v1 => some (zirem (v1 + x1) (60 : Int32), D))
set_option maxHeartbeats 4000000 in
set_option maxRecDepth 100000 in
theorem c_Pulses_rowOf (z : zT) (D : zD) (a : Nat) (x1 : Int32) : zM Y_Pulses_rowOf 1 0 0 (zqI z) (f_Pulses_rowOf z.2 D a x1) [.ref a, .int x1] z D := by
  refine zM_of (plainFor_of_name (by decide +kernel)) rfl (Nat.le_of_ble_eq_true rfl) (fun _ _ _ _ h => nomatch h.1) (fun K => ?_)
  unfold f_Pulses_rowOf
  refine z_aload_n (pc := 0) d_Pulses_rowOf_0 rfl 0 rfl ?_
  refine z_getI (pc := 1) fl_Pulses_28 d_Pulses_rowOf_1 (fun v1 => ?_)
  refine z_iload_n (pc := 4) d_Pulses_rowOf_4 rfl 1 rfl ?_
  refine z_iadd (pc := 5) d_Pulses_rowOf_5 ?_
  refine z_bipush (pc := 6) d_Pulses_rowOf_6 kb_60 ?_
  refine z_iremK (pc := 8) d_Pulses_rowOf_8 (by decide) ?_
  exact z_iret (pc := 9) d_Pulses_rowOf_9 rfl
theorem d_Pulses_move_0 : decode Y_Pulses_move.2.1 0 = .ok (.iload_n 1, 1) := by decide +kernel
theorem d_Pulses_move_1 : decode Y_Pulses_move.2.1 1 = .ok (.iload_n 2, 1) := by decide +kernel
theorem d_Pulses_move_2 : decode Y_Pulses_move.2.1 2 = .ok (.if_icmp .ne (4), 3) := by decide +kernel
theorem d_Pulses_move_5 : decode Y_Pulses_move.2.1 5 = .ok (.return_, 1) := by decide +kernel
theorem d_Pulses_move_6 : decode Y_Pulses_move.2.1 6 = .ok (.aload_n 0, 1) := by decide +kernel
theorem d_Pulses_move_7 : decode Y_Pulses_move.2.1 7 = .ok (.getfield 9, 3) := by decide +kernel
theorem d_Pulses_move_10 : decode Y_Pulses_move.2.1 10 = .ok (.iload_n 2, 1) := by decide +kernel
theorem d_Pulses_move_11 : decode Y_Pulses_move.2.1 11 = .ok (.aload_n 0, 1) := by decide +kernel
theorem d_Pulses_move_12 : decode Y_Pulses_move.2.1 12 = .ok (.getfield 9, 3) := by decide +kernel
theorem d_Pulses_move_15 : decode Y_Pulses_move.2.1 15 = .ok (.iload_n 1, 1) := by decide +kernel
theorem d_Pulses_move_16 : decode Y_Pulses_move.2.1 16 = .ok (.iaload, 1) := by decide +kernel
theorem d_Pulses_move_17 : decode Y_Pulses_move.2.1 17 = .ok (.iastore, 1) := by decide +kernel
theorem d_Pulses_move_18 : decode Y_Pulses_move.2.1 18 = .ok (.aload_n 0, 1) := by decide +kernel
theorem d_Pulses_move_19 : decode Y_Pulses_move.2.1 19 = .ok (.getfield 13, 3) := by decide +kernel
theorem d_Pulses_move_22 : decode Y_Pulses_move.2.1 22 = .ok (.iload_n 2, 1) := by decide +kernel
theorem d_Pulses_move_23 : decode Y_Pulses_move.2.1 23 = .ok (.aload_n 0, 1) := by decide +kernel
theorem d_Pulses_move_24 : decode Y_Pulses_move.2.1 24 = .ok (.getfield 13, 3) := by decide +kernel
theorem d_Pulses_move_27 : decode Y_Pulses_move.2.1 27 = .ok (.iload_n 1, 1) := by decide +kernel
theorem d_Pulses_move_28 : decode Y_Pulses_move.2.1 28 = .ok (.iaload, 1) := by decide +kernel
theorem d_Pulses_move_29 : decode Y_Pulses_move.2.1 29 = .ok (.iastore, 1) := by decide +kernel
theorem d_Pulses_move_30 : decode Y_Pulses_move.2.1 30 = .ok (.aload_n 0, 1) := by decide +kernel
theorem d_Pulses_move_31 : decode Y_Pulses_move.2.1 31 = .ok (.getfield 16, 3) := by decide +kernel
theorem d_Pulses_move_34 : decode Y_Pulses_move.2.1 34 = .ok (.iload_n 2, 1) := by decide +kernel
theorem d_Pulses_move_35 : decode Y_Pulses_move.2.1 35 = .ok (.aload_n 0, 1) := by decide +kernel
theorem d_Pulses_move_36 : decode Y_Pulses_move.2.1 36 = .ok (.getfield 16, 3) := by decide +kernel
theorem d_Pulses_move_39 : decode Y_Pulses_move.2.1 39 = .ok (.iload_n 1, 1) := by decide +kernel
theorem d_Pulses_move_40 : decode Y_Pulses_move.2.1 40 = .ok (.iaload, 1) := by decide +kernel
theorem d_Pulses_move_41 : decode Y_Pulses_move.2.1 41 = .ok (.iastore, 1) := by decide +kernel
theorem d_Pulses_move_42 : decode Y_Pulses_move.2.1 42 = .ok (.aload_n 0, 1) := by decide +kernel
theorem d_Pulses_move_43 : decode Y_Pulses_move.2.1 43 = .ok (.getfield 19, 3) := by decide +kernel
theorem d_Pulses_move_46 : decode Y_Pulses_move.2.1 46 = .ok (.iload_n 2, 1) := by decide +kernel
theorem d_Pulses_move_47 : decode Y_Pulses_move.2.1 47 = .ok (.aload_n 0, 1) := by decide +kernel
theorem d_Pulses_move_48 : decode Y_Pulses_move.2.1 48 = .ok (.getfield 19, 3) := by decide +kernel
theorem d_Pulses_move_51 : decode Y_Pulses_move.2.1 51 = .ok (.iload_n 1, 1) := by decide +kernel
theorem d_Pulses_move_52 : decode Y_Pulses_move.2.1 52 = .ok (.iaload, 1) := by decide +kernel
theorem d_Pulses_move_53 : decode Y_Pulses_move.2.1 53 = .ok (.iastore, 1) := by decide +kernel
theorem d_Pulses_move_54 : decode Y_Pulses_move.2.1 54 = .ok (.aload_n 0, 1) := by decide +kernel
theorem d_Pulses_move_55 : decode Y_Pulses_move.2.1 55 = .ok (.getfield 22, 3) := by decide +kernel
theorem d_Pulses_move_58 : decode Y_Pulses_move.2.1 58 = .ok (.iload_n 2, 1) := by decide +kernel
theorem d_Pulses_move_59 : decode Y_Pulses_move.2.1 59 = .ok (.aload_n 0, 1) := by decide +kernel
theorem d_Pulses_move_60 : decode Y_Pulses_move.2.1 60 = .ok (.getfield 22, 3) := by decide +kernel
theorem d_Pulses_move_63 : decode Y_Pulses_move.2.1 63 = .ok (.iload_n 1, 1) := by decide +kernel
theorem d_Pulses_move_64 : decode Y_Pulses_move.2.1 64 = .ok (.iaload, 1) := by decide +kernel
theorem d_Pulses_move_65 : decode Y_Pulses_move.2.1 65 = .ok (.iastore, 1) := by decide +kernel
theorem d_Pulses_move_66 : decode Y_Pulses_move.2.1 66 = .ok (.aload_n 0, 1) := by decide +kernel
theorem d_Pulses_move_67 : decode Y_Pulses_move.2.1 67 = .ok (.getfield 25, 3) := by decide +kernel
theorem d_Pulses_move_70 : decode Y_Pulses_move.2.1 70 = .ok (.iload_n 2, 1) := by decide +kernel
theorem d_Pulses_move_71 : decode Y_Pulses_move.2.1 71 = .ok (.aload_n 0, 1) := by decide +kernel
theorem d_Pulses_move_72 : decode Y_Pulses_move.2.1 72 = .ok (.getfield 25, 3) := by decide +kernel
theorem d_Pulses_move_75 : decode Y_Pulses_move.2.1 75 = .ok (.iload_n 1, 1) := by decide +kernel
theorem d_Pulses_move_76 : decode Y_Pulses_move.2.1 76 = .ok (.iaload, 1) := by decide +kernel
theorem d_Pulses_move_77 : decode Y_Pulses_move.2.1 77 = .ok (.iastore, 1) := by decide +kernel
theorem d_Pulses_move_78 : decode Y_Pulses_move.2.1 78 = .ok (.return_, 1) := by decide +kernel
def f_Pulses_move (w : zW) (D : zD) (a : Nat) (x1 : Int32) (x2 : Int32) : Option (zD) := (if x1 = x2 then some D else zref w 5 0 a (fun p1 => zref w 5 0 a (fun p2 => zald w D 0 p2 x1 (fun v3 => zast w D 0 p1 x2 v3 (fun D4 => zref w 5 1 a (fun p5 => zref w 5 1 a (fun p6 => zald w D4 0 p6 x1 (fun v7 => zast w D4 0 p5 x2 v7 (fun D8 => zref w 5 2 a (fun p9 => zref w 5 2 a (fun p10 => zald w D8 0 p10 x1 (fun v11 => zast w D8 0 p9 x2 v11 (fun D12 => zref w 5 3 a (fun p13 => zref w 5 3 a (fun p14 => zald w D12 0 p14 x1 (fun v15 => zast w D12 0 p13 x2 v15 (fun D16 => zref w 5 4 a (fun p17 => zref w 5 4 a (fun p18 => zald w D16 0 p18 x1 (fun v19 => zast w D16 0 p17 x2 v19 (fun D20 => zref w 5 5 a (fun p21 => zref w 5 5 a (fun p22 => zald w D20 0 p22 x1 (fun v23 => zast w D20 0 p21 x2 v23 (fun D24 => some D24)))))))))))))))))))))))))
set_option maxHeartbeats 4000000 in
set_option maxRecDepth 100000 in
theorem c_Pulses_move (z : zT) (D : zD) (a : Nat) (x1 : Int32) (x2 : Int32) : zM Y_Pulses_move 1 0 0 (zqV z) (f_Pulses_move z.2 D a x1 x2) [.ref a, .int x1, .int x2] z D := by
  refine zM_of (plainFor_of_name (by decide +kernel)) rfl (Nat.le_of_ble_eq_true rfl) (fun _ _ _ _ h => nomatch h.1) (fun K => ?_)
  unfold f_Pulses_move
  refine z_iload_n (pc := 0) d_Pulses_move_0 rfl 1 rfl ?_
  refine z_iload_n (pc := 1) d_Pulses_move_1 rfl 2 rfl ?_
  refine z_icmp_ne (pc := 2) (tgt := 6) d_Pulses_move_2 (by decide) ?_ ?_
  · exact z_vret (pc := 5) d_Pulses_move_5 rfl
  · refine z_aload_n (pc := 6) d_Pulses_move_6 rfl 0 rfl ?_
    refine z_getR (pc := 7) fl_Pulses_9 d_Pulses_move_7 (fun p1 => ?_)
    refine z_iload_n (pc := 10) d_Pulses_move_10 rfl 2 rfl ?_
    refine z_aload_n (pc := 11) d_Pulses_move_11 rfl 0 rfl ?_
    refine z_getR (pc := 12) fl_Pulses_9 d_Pulses_move_12 (fun p2 => ?_)
    refine z_iload_n (pc := 15) d_Pulses_move_15 rfl 1 rfl ?_
    refine z_iaload (pc := 16) d_Pulses_move_16 (fun v3 => ?_)
    refine z_iastore (pc := 17) d_Pulses_move_17 (fun D4 => ?_)
    refine z_aload_n (pc := 18) d_Pulses_move_18 rfl 0 rfl ?_
    refine z_getR (pc := 19) fl_Pulses_13 d_Pulses_move_19 (fun p5 => ?_)
    refine z_iload_n (pc := 22) d_Pulses_move_22 rfl 2 rfl ?_
    refine z_aload_n (pc := 23) d_Pulses_move_23 rfl 0 rfl ?_
    refine z_getR (pc := 24) fl_Pulses_13 d_Pulses_move_24 (fun p6 => ?_)
    refine z_iload_n (pc := 27) d_Pulses_move_27 rfl 1 rfl ?_
    refine z_iaload (pc := 28) d_Pulses_move_28 (fun v7 => ?_)
    refine z_iastore (pc := 29) d_Pulses_move_29 (fun D8 => ?_)
    refine z_aload_n (pc := 30) d_Pulses_move_30 rfl 0 rfl ?_
    refine z_getR (pc := 31) fl_Pulses_16 d_Pulses_move_31 (fun p9 => ?_)
    refine z_iload_n (pc := 34) d_Pulses_move_34 rfl 2 rfl ?_
    refine z_aload_n (pc := 35) d_Pulses_move_35 rfl 0 rfl ?_
    refine z_getR (pc := 36) fl_Pulses_16 d_Pulses_move_36 (fun p10 => ?_)
    refine z_iload_n (pc := 39) d_Pulses_move_39 rfl 1 rfl ?_
    refine z_iaload (pc := 40) d_Pulses_move_40 (fun v11 => ?_)
    refine z_iastore (pc := 41) d_Pulses_move_41 (fun D12 => ?_)
    refine z_aload_n (pc := 42) d_Pulses_move_42 rfl 0 rfl ?_
    refine z_getR (pc := 43) fl_Pulses_19 d_Pulses_move_43 (fun p13 => ?_)
    refine z_iload_n (pc := 46) d_Pulses_move_46 rfl 2 rfl ?_
    refine z_aload_n (pc := 47) d_Pulses_move_47 rfl 0 rfl ?_
    refine z_getR (pc := 48) fl_Pulses_19 d_Pulses_move_48 (fun p14 => ?_)
    refine z_iload_n (pc := 51) d_Pulses_move_51 rfl 1 rfl ?_
    refine z_iaload (pc := 52) d_Pulses_move_52 (fun v15 => ?_)
    refine z_iastore (pc := 53) d_Pulses_move_53 (fun D16 => ?_)
    refine z_aload_n (pc := 54) d_Pulses_move_54 rfl 0 rfl ?_
    refine z_getR (pc := 55) fl_Pulses_22 d_Pulses_move_55 (fun p17 => ?_)
    refine z_iload_n (pc := 58) d_Pulses_move_58 rfl 2 rfl ?_
    refine z_aload_n (pc := 59) d_Pulses_move_59 rfl 0 rfl ?_
    refine z_getR (pc := 60) fl_Pulses_22 d_Pulses_move_60 (fun p18 => ?_)
    refine z_iload_n (pc := 63) d_Pulses_move_63 rfl 1 rfl ?_
    refine z_iaload (pc := 64) d_Pulses_move_64 (fun v19 => ?_)
    refine z_iastore (pc := 65) d_Pulses_move_65 (fun D20 => ?_)
    refine z_aload_n (pc := 66) d_Pulses_move_66 rfl 0 rfl ?_
    refine z_getR (pc := 67) fl_Pulses_25 d_Pulses_move_67 (fun p21 => ?_)
    refine z_iload_n (pc := 70) d_Pulses_move_70 rfl 2 rfl ?_
    refine z_aload_n (pc := 71) d_Pulses_move_71 rfl 0 rfl ?_
    refine z_getR (pc := 72) fl_Pulses_25 d_Pulses_move_72 (fun p22 => ?_)
    refine z_iload_n (pc := 75) d_Pulses_move_75 rfl 1 rfl ?_
    refine z_iaload (pc := 76) d_Pulses_move_76 (fun v23 => ?_)
    refine z_iastore (pc := 77) d_Pulses_move_77 (fun D24 => ?_)
    exact z_vret (pc := 78) d_Pulses_move_78 rfl
theorem d_Ears_copyFrom_0 : decode Y_Ears_copyFrom.2.1 0 = .ok (.aload_n 0, 1) := by decide +kernel
theorem d_Ears_copyFrom_1 : decode Y_Ears_copyFrom.2.1 1 = .ok (.aload_n 1, 1) := by decide +kernel
theorem d_Ears_copyFrom_2 : decode Y_Ears_copyFrom.2.1 2 = .ok (.getfield 40, 3) := by decide +kernel
theorem d_Ears_copyFrom_5 : decode Y_Ears_copyFrom.2.1 5 = .ok (.putfield 40, 3) := by decide +kernel
theorem d_Ears_copyFrom_8 : decode Y_Ears_copyFrom.2.1 8 = .ok (.aload_n 0, 1) := by decide +kernel
theorem d_Ears_copyFrom_9 : decode Y_Ears_copyFrom.2.1 9 = .ok (.aload_n 1, 1) := by decide +kernel
theorem d_Ears_copyFrom_10 : decode Y_Ears_copyFrom.2.1 10 = .ok (.getfield 44, 3) := by decide +kernel
theorem d_Ears_copyFrom_13 : decode Y_Ears_copyFrom.2.1 13 = .ok (.putfield 44, 3) := by decide +kernel
theorem d_Ears_copyFrom_16 : decode Y_Ears_copyFrom.2.1 16 = .ok (.aload_n 0, 1) := by decide +kernel
theorem d_Ears_copyFrom_17 : decode Y_Ears_copyFrom.2.1 17 = .ok (.aload_n 1, 1) := by decide +kernel
theorem d_Ears_copyFrom_18 : decode Y_Ears_copyFrom.2.1 18 = .ok (.getfield 47, 3) := by decide +kernel
theorem d_Ears_copyFrom_21 : decode Y_Ears_copyFrom.2.1 21 = .ok (.putfield 47, 3) := by decide +kernel
theorem d_Ears_copyFrom_24 : decode Y_Ears_copyFrom.2.1 24 = .ok (.aload_n 1, 1) := by decide +kernel
theorem d_Ears_copyFrom_25 : decode Y_Ears_copyFrom.2.1 25 = .ok (.getfield 15, 3) := by decide +kernel
theorem d_Ears_copyFrom_28 : decode Y_Ears_copyFrom.2.1 28 = .ok (.iconst (0), 1) := by decide +kernel
theorem d_Ears_copyFrom_29 : decode Y_Ears_copyFrom.2.1 29 = .ok (.aload_n 0, 1) := by decide +kernel
theorem d_Ears_copyFrom_30 : decode Y_Ears_copyFrom.2.1 30 = .ok (.getfield 15, 3) := by decide +kernel
theorem d_Ears_copyFrom_33 : decode Y_Ears_copyFrom.2.1 33 = .ok (.iconst (0), 1) := by decide +kernel
theorem d_Ears_copyFrom_34 : decode Y_Ears_copyFrom.2.1 34 = .ok (.bipush (16), 2) := by decide +kernel
theorem d_Ears_copyFrom_36 : decode Y_Ears_copyFrom.2.1 36 = .ok (.invokestatic 50, 3) := by decide +kernel
theorem d_Ears_copyFrom_39 : decode Y_Ears_copyFrom.2.1 39 = .ok (.aload_n 1, 1) := by decide +kernel
theorem d_Ears_copyFrom_40 : decode Y_Ears_copyFrom.2.1 40 = .ok (.getfield 19, 3) := by decide +kernel
theorem d_Ears_copyFrom_43 : decode Y_Ears_copyFrom.2.1 43 = .ok (.iconst (0), 1) := by decide +kernel
theorem d_Ears_copyFrom_44 : decode Y_Ears_copyFrom.2.1 44 = .ok (.aload_n 0, 1) := by decide +kernel
theorem d_Ears_copyFrom_45 : decode Y_Ears_copyFrom.2.1 45 = .ok (.getfield 19, 3) := by decide +kernel
theorem d_Ears_copyFrom_48 : decode Y_Ears_copyFrom.2.1 48 = .ok (.iconst (0), 1) := by decide +kernel
theorem d_Ears_copyFrom_49 : decode Y_Ears_copyFrom.2.1 49 = .ok (.bipush (16), 2) := by decide +kernel
theorem d_Ears_copyFrom_51 : decode Y_Ears_copyFrom.2.1 51 = .ok (.invokestatic 50, 3) := by decide +kernel
theorem d_Ears_copyFrom_54 : decode Y_Ears_copyFrom.2.1 54 = .ok (.aload_n 1, 1) := by decide +kernel
theorem d_Ears_copyFrom_55 : decode Y_Ears_copyFrom.2.1 55 = .ok (.getfield 22, 3) := by decide +kernel
theorem d_Ears_copyFrom_58 : decode Y_Ears_copyFrom.2.1 58 = .ok (.iconst (0), 1) := by decide +kernel
theorem d_Ears_copyFrom_59 : decode Y_Ears_copyFrom.2.1 59 = .ok (.aload_n 0, 1) := by decide +kernel
theorem d_Ears_copyFrom_60 : decode Y_Ears_copyFrom.2.1 60 = .ok (.getfield 22, 3) := by decide +kernel
theorem d_Ears_copyFrom_63 : decode Y_Ears_copyFrom.2.1 63 = .ok (.iconst (0), 1) := by decide +kernel
theorem d_Ears_copyFrom_64 : decode Y_Ears_copyFrom.2.1 64 = .ok (.bipush (16), 2) := by decide +kernel
theorem d_Ears_copyFrom_66 : decode Y_Ears_copyFrom.2.1 66 = .ok (.invokestatic 50, 3) := by decide +kernel
theorem d_Ears_copyFrom_69 : decode Y_Ears_copyFrom.2.1 69 = .ok (.aload_n 1, 1) := by decide +kernel
theorem d_Ears_copyFrom_70 : decode Y_Ears_copyFrom.2.1 70 = .ok (.getfield 25, 3) := by decide +kernel
theorem d_Ears_copyFrom_73 : decode Y_Ears_copyFrom.2.1 73 = .ok (.iconst (0), 1) := by decide +kernel
theorem d_Ears_copyFrom_74 : decode Y_Ears_copyFrom.2.1 74 = .ok (.aload_n 0, 1) := by decide +kernel
theorem d_Ears_copyFrom_75 : decode Y_Ears_copyFrom.2.1 75 = .ok (.getfield 25, 3) := by decide +kernel
theorem d_Ears_copyFrom_78 : decode Y_Ears_copyFrom.2.1 78 = .ok (.iconst (0), 1) := by decide +kernel
theorem d_Ears_copyFrom_79 : decode Y_Ears_copyFrom.2.1 79 = .ok (.bipush (16), 2) := by decide +kernel
theorem d_Ears_copyFrom_81 : decode Y_Ears_copyFrom.2.1 81 = .ok (.invokestatic 50, 3) := by decide +kernel
theorem d_Ears_copyFrom_84 : decode Y_Ears_copyFrom.2.1 84 = .ok (.aload_n 1, 1) := by decide +kernel
theorem d_Ears_copyFrom_85 : decode Y_Ears_copyFrom.2.1 85 = .ok (.getfield 28, 3) := by decide +kernel
theorem d_Ears_copyFrom_88 : decode Y_Ears_copyFrom.2.1 88 = .ok (.iconst (0), 1) := by decide +kernel
theorem d_Ears_copyFrom_89 : decode Y_Ears_copyFrom.2.1 89 = .ok (.aload_n 0, 1) := by decide +kernel
theorem d_Ears_copyFrom_90 : decode Y_Ears_copyFrom.2.1 90 = .ok (.getfield 28, 3) := by decide +kernel
theorem d_Ears_copyFrom_93 : decode Y_Ears_copyFrom.2.1 93 = .ok (.iconst (0), 1) := by decide +kernel
theorem d_Ears_copyFrom_94 : decode Y_Ears_copyFrom.2.1 94 = .ok (.bipush (16), 2) := by decide +kernel
theorem d_Ears_copyFrom_96 : decode Y_Ears_copyFrom.2.1 96 = .ok (.invokestatic 50, 3) := by decide +kernel
theorem d_Ears_copyFrom_99 : decode Y_Ears_copyFrom.2.1 99 = .ok (.aload_n 1, 1) := by decide +kernel
theorem d_Ears_copyFrom_100 : decode Y_Ears_copyFrom.2.1 100 = .ok (.getfield 31, 3) := by decide +kernel
theorem d_Ears_copyFrom_103 : decode Y_Ears_copyFrom.2.1 103 = .ok (.iconst (0), 1) := by decide +kernel
theorem d_Ears_copyFrom_104 : decode Y_Ears_copyFrom.2.1 104 = .ok (.aload_n 0, 1) := by decide +kernel
theorem d_Ears_copyFrom_105 : decode Y_Ears_copyFrom.2.1 105 = .ok (.getfield 31, 3) := by decide +kernel
theorem d_Ears_copyFrom_108 : decode Y_Ears_copyFrom.2.1 108 = .ok (.iconst (0), 1) := by decide +kernel
theorem d_Ears_copyFrom_109 : decode Y_Ears_copyFrom.2.1 109 = .ok (.bipush (16), 2) := by decide +kernel
theorem d_Ears_copyFrom_111 : decode Y_Ears_copyFrom.2.1 111 = .ok (.invokestatic 50, 3) := by decide +kernel
theorem d_Ears_copyFrom_114 : decode Y_Ears_copyFrom.2.1 114 = .ok (.return_, 1) := by decide +kernel
def f_Ears_copyFrom (w : zW) (D : zD) (a : Nat) (r1 : Nat) : Option (zD) := zfld w D 1 6 r1 (fun v1 => zput w D 1 6 a v1 (fun D2 => zfld w D2 1 7 r1 (fun v3 => zput w D2 1 7 a v3 (fun D4 => zfld w D4 1 8 r1 (fun v5 => zput w D4 1 8 a v5 (fun D6 => zref w 1 0 r1 (fun p7 => zref w 1 0 a (fun p8 => zcpy w D6 0 p7 (0 : Int32) p8 (0 : Int32) (16 : Int32) (fun D9 => zref w 1 1 r1 (fun p10 => zref w 1 1 a (fun p11 => zcpy w D9 0 p10 (0 : Int32) p11 (0 : Int32) (16 : Int32) (fun D12 => zref w 1 2 r1 (fun p13 => zref w 1 2 a (fun p14 => zcpy w D12 0 p13 (0 : Int32) p14 (0 : Int32) (16 : Int32) (fun D15 => zref w 1 3 r1 (fun p16 => zref w 1 3 a (fun p17 => zcpy w D15 0 p16 (0 : Int32) p17 (0 : Int32) (16 : Int32) (fun D18 => zref w 1 4 r1 (fun p19 => zref w 1 4 a (fun p20 => zcpy w D18 0 p19 (0 : Int32) p20 (0 : Int32) (16 : Int32) (fun D21 => zref w 1 5 r1 (fun p22 => zref w 1 5 a (fun p23 => zcpy w D21 0 p22 (0 : Int32) p23 (0 : Int32) (16 : Int32) (fun D24 => some D24))))))))))))))))))))))))
set_option maxHeartbeats 4000000 in
set_option maxRecDepth 100000 in
theorem c_Ears_copyFrom (z : zT) (D : zD) (a : Nat) (r1 : Nat) : zM Y_Ears_copyFrom 1 0 0 (zqV z) (f_Ears_copyFrom z.2 D a r1) [.ref a, .ref r1] z D := by
  refine zM_of (plainFor_of_name (by decide +kernel)) rfl (Nat.le_of_ble_eq_true rfl) (fun _ _ _ _ h => nomatch h.1) (fun K => ?_)
  unfold f_Ears_copyFrom
  refine z_aload_n (pc := 0) d_Ears_copyFrom_0 rfl 0 rfl ?_
  refine z_aload_n (pc := 1) d_Ears_copyFrom_1 rfl 1 rfl ?_
  refine z_getI (pc := 2) fl_Ears_40 d_Ears_copyFrom_2 (fun v1 => ?_)
  refine z_putI (pc := 5) fl_Ears_40 d_Ears_copyFrom_5 (fun D2 => ?_)
  refine z_aload_n (pc := 8) d_Ears_copyFrom_8 rfl 0 rfl ?_
  refine z_aload_n (pc := 9) d_Ears_copyFrom_9 rfl 1 rfl ?_
  refine z_getI (pc := 10) fl_Ears_44 d_Ears_copyFrom_10 (fun v3 => ?_)
  refine z_putI (pc := 13) fl_Ears_44 d_Ears_copyFrom_13 (fun D4 => ?_)
  refine z_aload_n (pc := 16) d_Ears_copyFrom_16 rfl 0 rfl ?_
  refine z_aload_n (pc := 17) d_Ears_copyFrom_17 rfl 1 rfl ?_
  refine z_getI (pc := 18) fl_Ears_47 d_Ears_copyFrom_18 (fun v5 => ?_)
  refine z_putI (pc := 21) fl_Ears_47 d_Ears_copyFrom_21 (fun D6 => ?_)
  refine z_aload_n (pc := 24) d_Ears_copyFrom_24 rfl 1 rfl ?_
  refine z_getR (pc := 25) fl_Ears_15 d_Ears_copyFrom_25 (fun p7 => ?_)
  refine z_iconst (pc := 28) d_Ears_copyFrom_28 ki_0 ?_
  refine z_aload_n (pc := 29) d_Ears_copyFrom_29 rfl 0 rfl ?_
  refine z_getR (pc := 30) fl_Ears_15 d_Ears_copyFrom_30 (fun p8 => ?_)
  refine z_iconst (pc := 33) d_Ears_copyFrom_33 ki_0 ?_
  refine z_bipush (pc := 34) d_Ears_copyFrom_34 kb_16 ?_
  refine z_copyi (pc := 36) w_ml_Ears_50 w_acn w_acs w_ini_System 0 (by decide) (by decide) (Nat.le_of_ble_eq_true rfl) d_Ears_copyFrom_36 (fun D9 => ?_)
  refine z_aload_n (pc := 39) d_Ears_copyFrom_39 rfl 1 rfl ?_
  refine z_getR (pc := 40) fl_Ears_19 d_Ears_copyFrom_40 (fun p10 => ?_)
  refine z_iconst (pc := 43) d_Ears_copyFrom_43 ki_0 ?_
  refine z_aload_n (pc := 44) d_Ears_copyFrom_44 rfl 0 rfl ?_
  refine z_getR (pc := 45) fl_Ears_19 d_Ears_copyFrom_45 (fun p11 => ?_)
  refine z_iconst (pc := 48) d_Ears_copyFrom_48 ki_0 ?_
  refine z_bipush (pc := 49) d_Ears_copyFrom_49 kb_16 ?_
  refine z_copyi (pc := 51) w_ml_Ears_50 w_acn w_acs w_ini_System 0 (by decide) (by decide) (Nat.le_of_ble_eq_true rfl) d_Ears_copyFrom_51 (fun D12 => ?_)
  refine z_aload_n (pc := 54) d_Ears_copyFrom_54 rfl 1 rfl ?_
  refine z_getR (pc := 55) fl_Ears_22 d_Ears_copyFrom_55 (fun p13 => ?_)
  refine z_iconst (pc := 58) d_Ears_copyFrom_58 ki_0 ?_
  refine z_aload_n (pc := 59) d_Ears_copyFrom_59 rfl 0 rfl ?_
  refine z_getR (pc := 60) fl_Ears_22 d_Ears_copyFrom_60 (fun p14 => ?_)
  refine z_iconst (pc := 63) d_Ears_copyFrom_63 ki_0 ?_
  refine z_bipush (pc := 64) d_Ears_copyFrom_64 kb_16 ?_
  refine z_copyi (pc := 66) w_ml_Ears_50 w_acn w_acs w_ini_System 0 (by decide) (by decide) (Nat.le_of_ble_eq_true rfl) d_Ears_copyFrom_66 (fun D15 => ?_)
  refine z_aload_n (pc := 69) d_Ears_copyFrom_69 rfl 1 rfl ?_
  refine z_getR (pc := 70) fl_Ears_25 d_Ears_copyFrom_70 (fun p16 => ?_)
  refine z_iconst (pc := 73) d_Ears_copyFrom_73 ki_0 ?_
  refine z_aload_n (pc := 74) d_Ears_copyFrom_74 rfl 0 rfl ?_
  refine z_getR (pc := 75) fl_Ears_25 d_Ears_copyFrom_75 (fun p17 => ?_)
  refine z_iconst (pc := 78) d_Ears_copyFrom_78 ki_0 ?_
  refine z_bipush (pc := 79) d_Ears_copyFrom_79 kb_16 ?_
  refine z_copyi (pc := 81) w_ml_Ears_50 w_acn w_acs w_ini_System 0 (by decide) (by decide) (Nat.le_of_ble_eq_true rfl) d_Ears_copyFrom_81 (fun D18 => ?_)
  refine z_aload_n (pc := 84) d_Ears_copyFrom_84 rfl 1 rfl ?_
  refine z_getR (pc := 85) fl_Ears_28 d_Ears_copyFrom_85 (fun p19 => ?_)
  refine z_iconst (pc := 88) d_Ears_copyFrom_88 ki_0 ?_
  refine z_aload_n (pc := 89) d_Ears_copyFrom_89 rfl 0 rfl ?_
  refine z_getR (pc := 90) fl_Ears_28 d_Ears_copyFrom_90 (fun p20 => ?_)
  refine z_iconst (pc := 93) d_Ears_copyFrom_93 ki_0 ?_
  refine z_bipush (pc := 94) d_Ears_copyFrom_94 kb_16 ?_
  refine z_copyi (pc := 96) w_ml_Ears_50 w_acn w_acs w_ini_System 0 (by decide) (by decide) (Nat.le_of_ble_eq_true rfl) d_Ears_copyFrom_96 (fun D21 => ?_)
  refine z_aload_n (pc := 99) d_Ears_copyFrom_99 rfl 1 rfl ?_
  refine z_getR (pc := 100) fl_Ears_31 d_Ears_copyFrom_100 (fun p22 => ?_)
  refine z_iconst (pc := 103) d_Ears_copyFrom_103 ki_0 ?_
  refine z_aload_n (pc := 104) d_Ears_copyFrom_104 rfl 0 rfl ?_
  refine z_getR (pc := 105) fl_Ears_31 d_Ears_copyFrom_105 (fun p23 => ?_)
  refine z_iconst (pc := 108) d_Ears_copyFrom_108 ki_0 ?_
  refine z_bipush (pc := 109) d_Ears_copyFrom_109 kb_16 ?_
  refine z_copyi (pc := 111) w_ml_Ears_50 w_acn w_acs w_ini_System 0 (by decide) (by decide) (Nat.le_of_ble_eq_true rfl) d_Ears_copyFrom_111 (fun D24 => ?_)
  exact z_vret (pc := 114) d_Ears_copyFrom_114 rfl
theorem d_Ears_pairOf_0 : decode Y_Ears_pairOf.2.1 0 = .ok (.iload_n 0, 1) := by decide +kernel
theorem d_Ears_pairOf_1 : decode Y_Ears_pairOf.2.1 1 = .ok (.iconst (4), 1) := by decide +kernel
theorem d_Ears_pairOf_2 : decode Y_Ears_pairOf.2.1 2 = .ok (.imul, 1) := by decide +kernel
theorem d_Ears_pairOf_3 : decode Y_Ears_pairOf.2.1 3 = .ok (.iload_n 1, 1) := by decide +kernel
theorem d_Ears_pairOf_4 : decode Y_Ears_pairOf.2.1 4 = .ok (.iadd, 1) := by decide +kernel
theorem d_Ears_pairOf_5 : decode Y_Ears_pairOf.2.1 5 = .ok (.ireturn, 1) := by decide +kernel
def f_Ears_pairOf (w : zW) (D : zD) (x0 : Int32) (x1 : Int32) : Option (Int32 × zD) := some ((x0 * (4 : Int32)) + x1, D)
set_option maxHeartbeats 4000000 in
set_option maxRecDepth 100000 in
theorem c_Ears_pairOf (z : zT) (D : zD) (x0 : Int32) (x1 : Int32) : zM Y_Ears_pairOf 1 0 0 (zqI z) (f_Ears_pairOf z.2 D x0 x1) [.int x0, .int x1] z D := by
  refine zM_of (plainFor_of_name (by decide +kernel)) rfl (Nat.le_of_ble_eq_true rfl) (fun _ _ _ _ h => nomatch h.1) (fun K => ?_)
  unfold f_Ears_pairOf
  refine z_iload_n (pc := 0) d_Ears_pairOf_0 rfl 0 rfl ?_
  refine z_iconst (pc := 1) d_Ears_pairOf_1 ki_4 ?_
  refine z_imul (pc := 2) d_Ears_pairOf_2 ?_
  refine z_iload_n (pc := 3) d_Ears_pairOf_3 rfl 1 rfl ?_
  refine z_iadd (pc := 4) d_Ears_pairOf_4 ?_
  exact z_iret (pc := 5) d_Ears_pairOf_5 rfl
theorem d_Ears_hearEcho_0 : decode Y_Ears_hearEcho.2.1 0 = .ok (.aload_n 0, 1) := by decide +kernel
theorem d_Ears_hearEcho_1 : decode Y_Ears_hearEcho.2.1 1 = .ok (.getfield 19, 3) := by decide +kernel
theorem d_Ears_hearEcho_4 : decode Y_Ears_hearEcho.2.1 4 = .ok (.iload_n 1, 1) := by decide +kernel
theorem d_Ears_hearEcho_5 : decode Y_Ears_hearEcho.2.1 5 = .ok (.dup2, 1) := by decide +kernel
theorem d_Ears_hearEcho_6 : decode Y_Ears_hearEcho.2.1 6 = .ok (.iaload, 1) := by decide +kernel
theorem d_Ears_hearEcho_7 : decode Y_Ears_hearEcho.2.1 7 = .ok (.iconst (1), 1) := by decide +kernel
theorem d_Ears_hearEcho_8 : decode Y_Ears_hearEcho.2.1 8 = .ok (.iadd, 1) := by decide +kernel
theorem d_Ears_hearEcho_9 : decode Y_Ears_hearEcho.2.1 9 = .ok (.iastore, 1) := by decide +kernel
theorem d_Ears_hearEcho_10 : decode Y_Ears_hearEcho.2.1 10 = .ok (.aload_n 0, 1) := by decide +kernel
theorem d_Ears_hearEcho_11 : decode Y_Ears_hearEcho.2.1 11 = .ok (.dup, 1) := by decide +kernel
theorem d_Ears_hearEcho_12 : decode Y_Ears_hearEcho.2.1 12 = .ok (.getfield 44, 3) := by decide +kernel
theorem d_Ears_hearEcho_15 : decode Y_Ears_hearEcho.2.1 15 = .ok (.iconst (1), 1) := by decide +kernel
theorem d_Ears_hearEcho_16 : decode Y_Ears_hearEcho.2.1 16 = .ok (.iadd, 1) := by decide +kernel
theorem d_Ears_hearEcho_17 : decode Y_Ears_hearEcho.2.1 17 = .ok (.putfield 44, 3) := by decide +kernel
theorem d_Ears_hearEcho_20 : decode Y_Ears_hearEcho.2.1 20 = .ok (.return_, 1) := by decide +kernel
def f_Ears_hearEcho (w : zW) (D : zD) (a : Nat) (x1 : Int32) : Option (zD) := zref w 1 1 a (fun p1 => zald w D 0 p1 x1 (fun v2 => zast w D 0 p1 x1 (v2 + (1 : Int32)) (fun D3 => zfld w D3 1 7 a (fun v4 => zput w D3 1 7 a (v4 + (1 : Int32)) (fun D5 => some D5)))))
set_option maxHeartbeats 4000000 in
set_option maxRecDepth 100000 in
theorem c_Ears_hearEcho (z : zT) (D : zD) (a : Nat) (x1 : Int32) : zM Y_Ears_hearEcho 1 0 0 (zqV z) (f_Ears_hearEcho z.2 D a x1) [.ref a, .int x1] z D := by
  refine zM_of (plainFor_of_name (by decide +kernel)) rfl (Nat.le_of_ble_eq_true rfl) (fun _ _ _ _ h => nomatch h.1) (fun K => ?_)
  unfold f_Ears_hearEcho
  refine z_aload_n (pc := 0) d_Ears_hearEcho_0 rfl 0 rfl ?_
  refine z_getR (pc := 1) fl_Ears_19 d_Ears_hearEcho_1 (fun p1 => ?_)
  refine z_iload_n (pc := 4) d_Ears_hearEcho_4 rfl 1 rfl ?_
  refine z_dup2 (pc := 5) d_Ears_hearEcho_5 rfl rfl ?_
  refine z_iaload (pc := 6) d_Ears_hearEcho_6 (fun v2 => ?_)
  refine z_iconst (pc := 7) d_Ears_hearEcho_7 ki_1 ?_
  refine z_iadd (pc := 8) d_Ears_hearEcho_8 ?_
  refine z_iastore (pc := 9) d_Ears_hearEcho_9 (fun D3 => ?_)
  refine z_aload_n (pc := 10) d_Ears_hearEcho_10 rfl 0 rfl ?_
  refine z_dup (pc := 11) d_Ears_hearEcho_11 rfl ?_
  refine z_getI (pc := 12) fl_Ears_44 d_Ears_hearEcho_12 (fun v4 => ?_)
  refine z_iconst (pc := 15) d_Ears_hearEcho_15 ki_1 ?_
  refine z_iadd (pc := 16) d_Ears_hearEcho_16 ?_
  refine z_putI (pc := 17) fl_Ears_44 d_Ears_hearEcho_17 (fun D5 => ?_)
  exact z_vret (pc := 20) d_Ears_hearEcho_20 rfl
theorem d_Ears_hearDirect_0 : decode Y_Ears_hearDirect.2.1 0 = .ok (.aload_n 0, 1) := by decide +kernel
theorem d_Ears_hearDirect_1 : decode Y_Ears_hearDirect.2.1 1 = .ok (.getfield 15, 3) := by decide +kernel
theorem d_Ears_hearDirect_4 : decode Y_Ears_hearDirect.2.1 4 = .ok (.iload_n 1, 1) := by decide +kernel
theorem d_Ears_hearDirect_5 : decode Y_Ears_hearDirect.2.1 5 = .ok (.dup2, 1) := by decide +kernel
theorem d_Ears_hearDirect_6 : decode Y_Ears_hearDirect.2.1 6 = .ok (.iaload, 1) := by decide +kernel
theorem d_Ears_hearDirect_7 : decode Y_Ears_hearDirect.2.1 7 = .ok (.iconst (1), 1) := by decide +kernel
theorem d_Ears_hearDirect_8 : decode Y_Ears_hearDirect.2.1 8 = .ok (.iadd, 1) := by decide +kernel
theorem d_Ears_hearDirect_9 : decode Y_Ears_hearDirect.2.1 9 = .ok (.iastore, 1) := by decide +kernel
theorem d_Ears_hearDirect_10 : decode Y_Ears_hearDirect.2.1 10 = .ok (.aload_n 0, 1) := by decide +kernel
theorem d_Ears_hearDirect_11 : decode Y_Ears_hearDirect.2.1 11 = .ok (.dup, 1) := by decide +kernel
theorem d_Ears_hearDirect_12 : decode Y_Ears_hearDirect.2.1 12 = .ok (.getfield 40, 3) := by decide +kernel
theorem d_Ears_hearDirect_15 : decode Y_Ears_hearDirect.2.1 15 = .ok (.iconst (1), 1) := by decide +kernel
theorem d_Ears_hearDirect_16 : decode Y_Ears_hearDirect.2.1 16 = .ok (.iadd, 1) := by decide +kernel
theorem d_Ears_hearDirect_17 : decode Y_Ears_hearDirect.2.1 17 = .ok (.putfield 40, 3) := by decide +kernel
theorem d_Ears_hearDirect_20 : decode Y_Ears_hearDirect.2.1 20 = .ok (.iload_n 2, 1) := by decide +kernel
theorem d_Ears_hearDirect_21 : decode Y_Ears_hearDirect.2.1 21 = .ok (.aload_n 0, 1) := by decide +kernel
theorem d_Ears_hearDirect_22 : decode Y_Ears_hearDirect.2.1 22 = .ok (.getfield 31, 3) := by decide +kernel
theorem d_Ears_hearDirect_25 : decode Y_Ears_hearDirect.2.1 25 = .ok (.iload_n 1, 1) := by decide +kernel
theorem d_Ears_hearDirect_26 : decode Y_Ears_hearDirect.2.1 26 = .ok (.iaload, 1) := by decide +kernel
theorem d_Ears_hearDirect_27 : decode Y_Ears_hearDirect.2.1 27 = .ok (.if_icmp .ge (26), 3) := by decide +kernel
theorem d_Ears_hearDirect_30 : decode Y_Ears_hearDirect.2.1 30 = .ok (.aload_n 0, 1) := by decide +kernel
theorem d_Ears_hearDirect_31 : decode Y_Ears_hearDirect.2.1 31 = .ok (.getfield 22, 3) := by decide +kernel
theorem d_Ears_hearDirect_34 : decode Y_Ears_hearDirect.2.1 34 = .ok (.iload_n 1, 1) := by decide +kernel
theorem d_Ears_hearDirect_35 : decode Y_Ears_hearDirect.2.1 35 = .ok (.dup2, 1) := by decide +kernel
theorem d_Ears_hearDirect_36 : decode Y_Ears_hearDirect.2.1 36 = .ok (.iaload, 1) := by decide +kernel
theorem d_Ears_hearDirect_37 : decode Y_Ears_hearDirect.2.1 37 = .ok (.iconst (1), 1) := by decide +kernel
theorem d_Ears_hearDirect_38 : decode Y_Ears_hearDirect.2.1 38 = .ok (.iadd, 1) := by decide +kernel
theorem d_Ears_hearDirect_39 : decode Y_Ears_hearDirect.2.1 39 = .ok (.iastore, 1) := by decide +kernel
theorem d_Ears_hearDirect_40 : decode Y_Ears_hearDirect.2.1 40 = .ok (.aload_n 0, 1) := by decide +kernel
theorem d_Ears_hearDirect_41 : decode Y_Ears_hearDirect.2.1 41 = .ok (.dup, 1) := by decide +kernel
theorem d_Ears_hearDirect_42 : decode Y_Ears_hearDirect.2.1 42 = .ok (.getfield 47, 3) := by decide +kernel
theorem d_Ears_hearDirect_45 : decode Y_Ears_hearDirect.2.1 45 = .ok (.iconst (1), 1) := by decide +kernel
theorem d_Ears_hearDirect_46 : decode Y_Ears_hearDirect.2.1 46 = .ok (.iadd, 1) := by decide +kernel
theorem d_Ears_hearDirect_47 : decode Y_Ears_hearDirect.2.1 47 = .ok (.putfield 47, 3) := by decide +kernel
theorem d_Ears_hearDirect_50 : decode Y_Ears_hearDirect.2.1 50 = .ok (.goto (10), 3) := by decide +kernel
theorem d_Ears_hearDirect_53 : decode Y_Ears_hearDirect.2.1 53 = .ok (.aload_n 0, 1) := by decide +kernel
theorem d_Ears_hearDirect_54 : decode Y_Ears_hearDirect.2.1 54 = .ok (.getfield 31, 3) := by decide +kernel
theorem d_Ears_hearDirect_57 : decode Y_Ears_hearDirect.2.1 57 = .ok (.iload_n 1, 1) := by decide +kernel
theorem d_Ears_hearDirect_58 : decode Y_Ears_hearDirect.2.1 58 = .ok (.iload_n 2, 1) := by decide +kernel
theorem d_Ears_hearDirect_59 : decode Y_Ears_hearDirect.2.1 59 = .ok (.iastore, 1) := by decide +kernel
theorem d_Ears_hearDirect_60 : decode Y_Ears_hearDirect.2.1 60 = .ok (.aload_n 0, 1) := by decide +kernel
theorem d_Ears_hearDirect_61 : decode Y_Ears_hearDirect.2.1 61 = .ok (.getfield 25, 3) := by decide +kernel
theorem d_Ears_hearDirect_64 : decode Y_Ears_hearDirect.2.1 64 = .ok (.iload_n 1, 1) := by decide +kernel
theorem d_Ears_hearDirect_65 : decode Y_Ears_hearDirect.2.1 65 = .ok (.iaload, 1) := by decide +kernel
theorem d_Ears_hearDirect_66 : decode Y_Ears_hearDirect.2.1 66 = .ok (.iconst (-1), 1) := by decide +kernel
theorem d_Ears_hearDirect_67 : decode Y_Ears_hearDirect.2.1 67 = .ok (.if_icmp .eq (17), 3) := by decide +kernel
theorem d_Ears_hearDirect_70 : decode Y_Ears_hearDirect.2.1 70 = .ok (.aload_n 0, 1) := by decide +kernel
theorem d_Ears_hearDirect_71 : decode Y_Ears_hearDirect.2.1 71 = .ok (.getfield 28, 3) := by decide +kernel
theorem d_Ears_hearDirect_74 : decode Y_Ears_hearDirect.2.1 74 = .ok (.iload_n 1, 1) := by decide +kernel
theorem d_Ears_hearDirect_75 : decode Y_Ears_hearDirect.2.1 75 = .ok (.iload_n 3, 1) := by decide +kernel
theorem d_Ears_hearDirect_76 : decode Y_Ears_hearDirect.2.1 76 = .ok (.aload_n 0, 1) := by decide +kernel
theorem d_Ears_hearDirect_77 : decode Y_Ears_hearDirect.2.1 77 = .ok (.getfield 25, 3) := by decide +kernel
theorem d_Ears_hearDirect_80 : decode Y_Ears_hearDirect.2.1 80 = .ok (.iload_n 1, 1) := by decide +kernel
theorem d_Ears_hearDirect_81 : decode Y_Ears_hearDirect.2.1 81 = .ok (.iaload, 1) := by decide +kernel
theorem d_Ears_hearDirect_82 : decode Y_Ears_hearDirect.2.1 82 = .ok (.isub, 1) := by decide +kernel
theorem d_Ears_hearDirect_83 : decode Y_Ears_hearDirect.2.1 83 = .ok (.iastore, 1) := by decide +kernel
theorem d_Ears_hearDirect_84 : decode Y_Ears_hearDirect.2.1 84 = .ok (.aload_n 0, 1) := by decide +kernel
theorem d_Ears_hearDirect_85 : decode Y_Ears_hearDirect.2.1 85 = .ok (.getfield 25, 3) := by decide +kernel
theorem d_Ears_hearDirect_88 : decode Y_Ears_hearDirect.2.1 88 = .ok (.iload_n 1, 1) := by decide +kernel
theorem d_Ears_hearDirect_89 : decode Y_Ears_hearDirect.2.1 89 = .ok (.iload_n 3, 1) := by decide +kernel
theorem d_Ears_hearDirect_90 : decode Y_Ears_hearDirect.2.1 90 = .ok (.iastore, 1) := by decide +kernel
theorem d_Ears_hearDirect_91 : decode Y_Ears_hearDirect.2.1 91 = .ok (.return_, 1) := by decide +kernel
def f_Ears_hearDirect (w : zW) (D : zD) (a : Nat) (x1 : Int32) (x2 : Int32) (x3 : Int32) : Option (zD) := zjp (fun (D1 : zD) => zjp (fun (D2 : zD) => zref w 1 3 a (fun p3 => zast w D2 0 p3 x1 x3 (fun D4 => some D4))) (fun j84 => zref w 1 3 a (fun p5 => zald w D1 0 p5 x1 (fun v6 => (if v6 = (-1 : Int32) then j84 D1 else zref w 1 4 a (fun p7 => zref w 1 3 a (fun p8 => zald w D1 0 p8 x1 (fun v9 => zast w D1 0 p7 x1 (x3 - v9) (fun D10 => j84 D10))))))))) (fun j60 => zref w 1 0 a (fun p11 => zald w D 0 p11 x1 (fun v12 => zast w D 0 p11 x1 (v12 + (1 : Int32)) (fun D13 => zfld w D13 1 6 a (fun v14 => zput w D13 1 6 a (v14 + (1 : Int32)) (fun D15 => zref w 1 5 a (fun p16 => zald w D15 0 p16 x1 (fun v17 => (if v17 ≤ x2 then zref w 1 5 a (fun p18 => zast w D15 0 p18 x1 x2 (fun D19 => j60 D19)) else zref w 1 2 a (fun p20 => zald w D15 0 p20 x1 (fun v21 => zast w D15 0 p20 x1 (v21 + (1 : Int32)) (fun D22 => zfld w D22 1 8 a (fun v23 => zput w D22 1 8 a (v23 + (1 : Int32)) (fun D24 => j60 D24))))))))))))))
set_option maxHeartbeats 4000000 in
set_option maxRecDepth 100000 in
theorem c_Ears_hearDirect (z : zT) (D : zD) (a : Nat) (x1 : Int32) (x2 : Int32) (x3 : Int32) : zM Y_Ears_hearDirect 1 0 0 (zqV z) (f_Ears_hearDirect z.2 D a x1 x2 x3) [.ref a, .int x1, .int x2, .int x3] z D := by
  refine zM_of (plainFor_of_name (by decide +kernel)) rfl (Nat.le_of_ble_eq_true rfl) (fun _ _ _ _ h => nomatch h.1) (fun K => ?_)
  unfold f_Ears_hearDirect
  refine z_jp (fun j60 : zD → Option (zD) => ∀ (D1 : zD), zGO K Y_Ears_hearDirect 1 0 0 (zqV z) (j60  D1) 0 0 z D1 60 [(0, .ref a), (1, .int x1), (3, .int x3)] []) (fun  D1 => ?_) (fun j60 h60 => ?_)
  · refine z_jp (fun j84 : zD → Option (zD) => ∀ (D2 : zD), zGO K Y_Ears_hearDirect 1 0 0 (zqV z) (j84  D2) 0 0 z D2 84 [(0, .ref a), (1, .int x1), (3, .int x3)] []) (fun  D2 => ?_) (fun j84 h84 => ?_)
    · refine z_aload_n (pc := 84) d_Ears_hearDirect_84 rfl 0 rfl ?_
      refine z_getR (pc := 85) fl_Ears_25 d_Ears_hearDirect_85 (fun p3 => ?_)
      refine z_iload_n (pc := 88) d_Ears_hearDirect_88 rfl 1 rfl ?_
      refine z_iload_n (pc := 89) d_Ears_hearDirect_89 rfl 2 rfl ?_
      refine z_iastore (pc := 90) d_Ears_hearDirect_90 (fun D4 => ?_)
      exact z_vret (pc := 91) d_Ears_hearDirect_91 rfl
    · refine z_aload_n (pc := 60) d_Ears_hearDirect_60 rfl 0 rfl ?_
      refine z_getR (pc := 61) fl_Ears_25 d_Ears_hearDirect_61 (fun p5 => ?_)
      refine z_iload_n (pc := 64) d_Ears_hearDirect_64 rfl 1 rfl ?_
      refine z_iaload (pc := 65) d_Ears_hearDirect_65 (fun v6 => ?_)
      refine z_iconst (pc := 66) d_Ears_hearDirect_66 ki_m1 ?_
      refine z_icmp_eq (pc := 67) (tgt := 84) d_Ears_hearDirect_67 (by decide) ?_ ?_
      · exact z_sub [0, 1, 2] rfl (h84 D1)
      · refine z_aload_n (pc := 70) d_Ears_hearDirect_70 rfl 0 rfl ?_
        refine z_getR (pc := 71) fl_Ears_28 d_Ears_hearDirect_71 (fun p7 => ?_)
        refine z_iload_n (pc := 74) d_Ears_hearDirect_74 rfl 1 rfl ?_
        refine z_iload_n (pc := 75) d_Ears_hearDirect_75 rfl 2 rfl ?_
        refine z_aload_n (pc := 76) d_Ears_hearDirect_76 rfl 0 rfl ?_
        refine z_getR (pc := 77) fl_Ears_25 d_Ears_hearDirect_77 (fun p8 => ?_)
        refine z_iload_n (pc := 80) d_Ears_hearDirect_80 rfl 1 rfl ?_
        refine z_iaload (pc := 81) d_Ears_hearDirect_81 (fun v9 => ?_)
        refine z_isub (pc := 82) d_Ears_hearDirect_82 ?_
        refine z_iastore (pc := 83) d_Ears_hearDirect_83 (fun D10 => ?_)
        exact z_sub [0, 1, 2] rfl (h84 D10)
  · refine z_aload_n (pc := 0) d_Ears_hearDirect_0 rfl 0 rfl ?_
    refine z_getR (pc := 1) fl_Ears_15 d_Ears_hearDirect_1 (fun p11 => ?_)
    refine z_iload_n (pc := 4) d_Ears_hearDirect_4 rfl 1 rfl ?_
    refine z_dup2 (pc := 5) d_Ears_hearDirect_5 rfl rfl ?_
    refine z_iaload (pc := 6) d_Ears_hearDirect_6 (fun v12 => ?_)
    refine z_iconst (pc := 7) d_Ears_hearDirect_7 ki_1 ?_
    refine z_iadd (pc := 8) d_Ears_hearDirect_8 ?_
    refine z_iastore (pc := 9) d_Ears_hearDirect_9 (fun D13 => ?_)
    refine z_aload_n (pc := 10) d_Ears_hearDirect_10 rfl 0 rfl ?_
    refine z_dup (pc := 11) d_Ears_hearDirect_11 rfl ?_
    refine z_getI (pc := 12) fl_Ears_40 d_Ears_hearDirect_12 (fun v14 => ?_)
    refine z_iconst (pc := 15) d_Ears_hearDirect_15 ki_1 ?_
    refine z_iadd (pc := 16) d_Ears_hearDirect_16 ?_
    refine z_putI (pc := 17) fl_Ears_40 d_Ears_hearDirect_17 (fun D15 => ?_)
    refine z_iload_n (pc := 20) d_Ears_hearDirect_20 rfl 2 rfl ?_
    refine z_aload_n (pc := 21) d_Ears_hearDirect_21 rfl 0 rfl ?_
    refine z_getR (pc := 22) fl_Ears_31 d_Ears_hearDirect_22 (fun p16 => ?_)
    refine z_iload_n (pc := 25) d_Ears_hearDirect_25 rfl 1 rfl ?_
    refine z_iaload (pc := 26) d_Ears_hearDirect_26 (fun v17 => ?_)
    refine z_icmp_ge (pc := 27) (tgt := 53) d_Ears_hearDirect_27 (by decide) ?_ ?_
    · refine z_aload_n (pc := 53) d_Ears_hearDirect_53 rfl 0 rfl ?_
      refine z_getR (pc := 54) fl_Ears_31 d_Ears_hearDirect_54 (fun p18 => ?_)
      refine z_iload_n (pc := 57) d_Ears_hearDirect_57 rfl 1 rfl ?_
      refine z_iload_n (pc := 58) d_Ears_hearDirect_58 rfl 2 rfl ?_
      refine z_iastore (pc := 59) d_Ears_hearDirect_59 (fun D19 => ?_)
      exact z_sub [0, 1, 3] rfl (h60 D19)
    · refine z_aload_n (pc := 30) d_Ears_hearDirect_30 rfl 0 rfl ?_
      refine z_getR (pc := 31) fl_Ears_22 d_Ears_hearDirect_31 (fun p20 => ?_)
      refine z_iload_n (pc := 34) d_Ears_hearDirect_34 rfl 1 rfl ?_
      refine z_dup2 (pc := 35) d_Ears_hearDirect_35 rfl rfl ?_
      refine z_iaload (pc := 36) d_Ears_hearDirect_36 (fun v21 => ?_)
      refine z_iconst (pc := 37) d_Ears_hearDirect_37 ki_1 ?_
      refine z_iadd (pc := 38) d_Ears_hearDirect_38 ?_
      refine z_iastore (pc := 39) d_Ears_hearDirect_39 (fun D22 => ?_)
      refine z_aload_n (pc := 40) d_Ears_hearDirect_40 rfl 0 rfl ?_
      refine z_dup (pc := 41) d_Ears_hearDirect_41 rfl ?_
      refine z_getI (pc := 42) fl_Ears_47 d_Ears_hearDirect_42 (fun v23 => ?_)
      refine z_iconst (pc := 45) d_Ears_hearDirect_45 ki_1 ?_
      refine z_iadd (pc := 46) d_Ears_hearDirect_46 ?_
      refine z_putI (pc := 47) fl_Ears_47 d_Ears_hearDirect_47 (fun D24 => ?_)
      refine z_goto (pc := 50) (tgt := 60) d_Ears_hearDirect_50 (by decide) ?_
      exact z_sub [0, 1, 3] rfl (h60 D24)
theorem d_Pulses_add_0 : decode Y_Pulses_add.2.1 0 = .ok (.aload_n 0, 1) := by decide +kernel
theorem d_Pulses_add_1 : decode Y_Pulses_add.2.1 1 = .ok (.getfield 32, 3) := by decide +kernel
theorem d_Pulses_add_4 : decode Y_Pulses_add.2.1 4 = .ok (.bipush (60), 2) := by decide +kernel
theorem d_Pulses_add_6 : decode Y_Pulses_add.2.1 6 = .ok (.if_icmp .lt (22), 3) := by decide +kernel
theorem d_Pulses_add_9 : decode Y_Pulses_add.2.1 9 = .ok (.aload_n 0, 1) := by decide +kernel
theorem d_Pulses_add_10 : decode Y_Pulses_add.2.1 10 = .ok (.aload_n 0, 1) := by decide +kernel
theorem d_Pulses_add_11 : decode Y_Pulses_add.2.1 11 = .ok (.iconst (1), 1) := by decide +kernel
theorem d_Pulses_add_12 : decode Y_Pulses_add.2.1 12 = .ok (.invokevirtual 41, 3) := by decide +kernel
theorem d_Pulses_add_15 : decode Y_Pulses_add.2.1 15 = .ok (.putfield 28, 3) := by decide +kernel
theorem d_Pulses_add_18 : decode Y_Pulses_add.2.1 18 = .ok (.aload_n 0, 1) := by decide +kernel
theorem d_Pulses_add_19 : decode Y_Pulses_add.2.1 19 = .ok (.dup, 1) := by decide +kernel
theorem d_Pulses_add_20 : decode Y_Pulses_add.2.1 20 = .ok (.getfield 32, 3) := by decide +kernel
theorem d_Pulses_add_23 : decode Y_Pulses_add.2.1 23 = .ok (.iconst (1), 1) := by decide +kernel
theorem d_Pulses_add_24 : decode Y_Pulses_add.2.1 24 = .ok (.isub, 1) := by decide +kernel
theorem d_Pulses_add_25 : decode Y_Pulses_add.2.1 25 = .ok (.putfield 32, 3) := by decide +kernel
theorem d_Pulses_add_28 : decode Y_Pulses_add.2.1 28 = .ok (.aload_n 0, 1) := by decide +kernel
theorem d_Pulses_add_29 : decode Y_Pulses_add.2.1 29 = .ok (.aload_n 0, 1) := by decide +kernel
theorem d_Pulses_add_30 : decode Y_Pulses_add.2.1 30 = .ok (.getfield 32, 3) := by decide +kernel
theorem d_Pulses_add_33 : decode Y_Pulses_add.2.1 33 = .ok (.invokevirtual 41, 3) := by decide +kernel
theorem d_Pulses_add_36 : decode Y_Pulses_add.2.1 36 = .ok (.istore 6, 2) := by decide +kernel
theorem d_Pulses_add_38 : decode Y_Pulses_add.2.1 38 = .ok (.aload_n 0, 1) := by decide +kernel
theorem d_Pulses_add_39 : decode Y_Pulses_add.2.1 39 = .ok (.getfield 9, 3) := by decide +kernel
theorem d_Pulses_add_42 : decode Y_Pulses_add.2.1 42 = .ok (.iload 6, 2) := by decide +kernel
theorem d_Pulses_add_44 : decode Y_Pulses_add.2.1 44 = .ok (.iload_n 1, 1) := by decide +kernel
theorem d_Pulses_add_45 : decode Y_Pulses_add.2.1 45 = .ok (.iastore, 1) := by decide +kernel
theorem d_Pulses_add_46 : decode Y_Pulses_add.2.1 46 = .ok (.aload_n 0, 1) := by decide +kernel
theorem d_Pulses_add_47 : decode Y_Pulses_add.2.1 47 = .ok (.getfield 13, 3) := by decide +kernel
theorem d_Pulses_add_50 : decode Y_Pulses_add.2.1 50 = .ok (.iload 6, 2) := by decide +kernel
theorem d_Pulses_add_52 : decode Y_Pulses_add.2.1 52 = .ok (.iload_n 2, 1) := by decide +kernel
theorem d_Pulses_add_53 : decode Y_Pulses_add.2.1 53 = .ok (.iastore, 1) := by decide +kernel
theorem d_Pulses_add_54 : decode Y_Pulses_add.2.1 54 = .ok (.aload_n 0, 1) := by decide +kernel
theorem d_Pulses_add_55 : decode Y_Pulses_add.2.1 55 = .ok (.getfield 16, 3) := by decide +kernel
theorem d_Pulses_add_58 : decode Y_Pulses_add.2.1 58 = .ok (.iload 6, 2) := by decide +kernel
theorem d_Pulses_add_60 : decode Y_Pulses_add.2.1 60 = .ok (.iload_n 3, 1) := by decide +kernel
theorem d_Pulses_add_61 : decode Y_Pulses_add.2.1 61 = .ok (.iastore, 1) := by decide +kernel
theorem d_Pulses_add_62 : decode Y_Pulses_add.2.1 62 = .ok (.aload_n 0, 1) := by decide +kernel
theorem d_Pulses_add_63 : decode Y_Pulses_add.2.1 63 = .ok (.getfield 19, 3) := by decide +kernel
theorem d_Pulses_add_66 : decode Y_Pulses_add.2.1 66 = .ok (.iload 6, 2) := by decide +kernel
theorem d_Pulses_add_68 : decode Y_Pulses_add.2.1 68 = .ok (.iload 4, 2) := by decide +kernel
theorem d_Pulses_add_70 : decode Y_Pulses_add.2.1 70 = .ok (.iastore, 1) := by decide +kernel
theorem d_Pulses_add_71 : decode Y_Pulses_add.2.1 71 = .ok (.aload_n 0, 1) := by decide +kernel
theorem d_Pulses_add_72 : decode Y_Pulses_add.2.1 72 = .ok (.getfield 22, 3) := by decide +kernel
theorem d_Pulses_add_75 : decode Y_Pulses_add.2.1 75 = .ok (.iload 6, 2) := by decide +kernel
theorem d_Pulses_add_77 : decode Y_Pulses_add.2.1 77 = .ok (.iload 5, 2) := by decide +kernel
theorem d_Pulses_add_79 : decode Y_Pulses_add.2.1 79 = .ok (.iastore, 1) := by decide +kernel
theorem d_Pulses_add_80 : decode Y_Pulses_add.2.1 80 = .ok (.aload_n 0, 1) := by decide +kernel
theorem d_Pulses_add_81 : decode Y_Pulses_add.2.1 81 = .ok (.getfield 25, 3) := by decide +kernel
theorem d_Pulses_add_84 : decode Y_Pulses_add.2.1 84 = .ok (.iload 6, 2) := by decide +kernel
theorem d_Pulses_add_86 : decode Y_Pulses_add.2.1 86 = .ok (.iconst (0), 1) := by decide +kernel
theorem d_Pulses_add_87 : decode Y_Pulses_add.2.1 87 = .ok (.iastore, 1) := by decide +kernel
theorem d_Pulses_add_88 : decode Y_Pulses_add.2.1 88 = .ok (.aload_n 0, 1) := by decide +kernel
theorem d_Pulses_add_89 : decode Y_Pulses_add.2.1 89 = .ok (.dup, 1) := by decide +kernel
theorem d_Pulses_add_90 : decode Y_Pulses_add.2.1 90 = .ok (.getfield 32, 3) := by decide +kernel
theorem d_Pulses_add_93 : decode Y_Pulses_add.2.1 93 = .ok (.iconst (1), 1) := by decide +kernel
theorem d_Pulses_add_94 : decode Y_Pulses_add.2.1 94 = .ok (.iadd, 1) := by decide +kernel
theorem d_Pulses_add_95 : decode Y_Pulses_add.2.1 95 = .ok (.putfield 32, 3) := by decide +kernel
theorem d_Pulses_add_98 : decode Y_Pulses_add.2.1 98 = .ok (.return_, 1) := by decide +kernel
def f_Pulses_add (w : zW) (D : zD) (a : Nat) (x1 : Int32) (x2 : Int32) (x3 : Int32) (x4 : Int32) (x5 : Int32) : Option (zD) := zjp (fun (D1 : zD) => zfld w D1 5 7 a (fun v2 => zobj w 5 a (zci (f_Pulses_rowOf w D1 a v2) (fun v3 D4 => zref w 5 0 a (fun p5 => zast w D4 0 p5 v3 x1 (fun D6 => zref w 5 1 a (fun p7 => zast w D6 0 p7 v3 x2 (fun D8 => zref w 5 2 a (fun p9 => zast w D8 0 p9 v3 x3 (fun D10 => zref w 5 3 a (fun p11 => zast w D10 0 p11 v3 x4 (fun D12 => zref w 5 4 a (fun p13 => zast w D12 0 p13 v3 x5 (fun D14 => zref w 5 5 a (fun p15 => zast w D14 0 p15 v3 (0 : Int32) (fun D16 => zfld w D16 5 7 a (fun v17 => zput w D16 5 7 a (v17 + (1 : Int32)) (fun D18 => some D18)))))))))))))))))) (fun j28 => zfld w D 5 7 a (fun v19 => (if v19 < (60 : Int32) then j28 D else zobj w 5 a (zci (f_Pulses_rowOf w D a (1 : Int32)) (fun v20 D21 => zput w D21 5 6 a v20 (fun D22 => zfld w D22 5 7 a (fun v23 => zput w D22 5 7 a (v23 - (1 : Int32)) (fun D24 => j28 D24))))))))
set_option maxHeartbeats 4000000 in
set_option maxRecDepth 100000 in
theorem c_Pulses_add (z : zT) (D : zD) (a : Nat) (x1 : Int32) (x2 : Int32) (x3 : Int32) (x4 : Int32) (x5 : Int32) : zM Y_Pulses_add 2 0 0 (zqV z) (f_Pulses_add z.2 D a x1 x2 x3 x4 x5) [.ref a, .int x1, .int x2, .int x3, .int x4, .int x5] z D := by
  refine zM_of (plainFor_of_name (by decide +kernel)) rfl (Nat.le_of_ble_eq_true rfl) (fun _ _ _ _ h => nomatch h.1) (fun K => ?_)
  unfold f_Pulses_add
  refine z_jp (fun j28 : zD → Option (zD) => ∀ (D1 : zD), zGO K Y_Pulses_add 2 0 0 (zqV z) (j28  D1) 0 0 z D1 28 [(0, .ref a), (1, .int x1), (2, .int x2), (3, .int x3), (4, .int x4), (5, .int x5)] []) (fun  D1 => ?_) (fun j28 h28 => ?_)
  · refine z_aload_n (pc := 28) d_Pulses_add_28 rfl 0 rfl ?_
    refine z_aload_n (pc := 29) d_Pulses_add_29 rfl 0 rfl ?_
    refine z_getI (pc := 30) fl_Pulses_32 d_Pulses_add_30 (fun v2 => ?_)
    refine z_callVi (pc := 33) [.int v2] lkV_Pulses_41 rfl (c_Pulses_rowOf z D1 a v2) (by decide) rfl rfl (Nat.le_of_ble_eq_true rfl) d_Pulses_add_33 (fun v3 D4 => ?_)
    refine z_istore (pc := 36) d_Pulses_add_36 (by decide) (lv' := [(6, .int v3), (0, .ref a), (1, .int x1), (2, .int x2), (3, .int x3), (4, .int x4), (5, .int x5)]) rfl ?_
    refine z_aload_n (pc := 38) d_Pulses_add_38 rfl 1 rfl ?_
    refine z_getR (pc := 39) fl_Pulses_9 d_Pulses_add_39 (fun p5 => ?_)
    refine z_iload (pc := 42) d_Pulses_add_42 0 rfl ?_
    refine z_iload_n (pc := 44) d_Pulses_add_44 rfl 2 rfl ?_
    refine z_iastore (pc := 45) d_Pulses_add_45 (fun D6 => ?_)
    refine z_aload_n (pc := 46) d_Pulses_add_46 rfl 1 rfl ?_
    refine z_getR (pc := 47) fl_Pulses_13 d_Pulses_add_47 (fun p7 => ?_)
    refine z_iload (pc := 50) d_Pulses_add_50 0 rfl ?_
    refine z_iload_n (pc := 52) d_Pulses_add_52 rfl 3 rfl ?_
    refine z_iastore (pc := 53) d_Pulses_add_53 (fun D8 => ?_)
    refine z_aload_n (pc := 54) d_Pulses_add_54 rfl 1 rfl ?_
    refine z_getR (pc := 55) fl_Pulses_16 d_Pulses_add_55 (fun p9 => ?_)
    refine z_iload (pc := 58) d_Pulses_add_58 0 rfl ?_
    refine z_iload_n (pc := 60) d_Pulses_add_60 rfl 4 rfl ?_
    refine z_iastore (pc := 61) d_Pulses_add_61 (fun D10 => ?_)
    refine z_aload_n (pc := 62) d_Pulses_add_62 rfl 1 rfl ?_
    refine z_getR (pc := 63) fl_Pulses_19 d_Pulses_add_63 (fun p11 => ?_)
    refine z_iload (pc := 66) d_Pulses_add_66 0 rfl ?_
    refine z_iload (pc := 68) d_Pulses_add_68 5 rfl ?_
    refine z_iastore (pc := 70) d_Pulses_add_70 (fun D12 => ?_)
    refine z_aload_n (pc := 71) d_Pulses_add_71 rfl 1 rfl ?_
    refine z_getR (pc := 72) fl_Pulses_22 d_Pulses_add_72 (fun p13 => ?_)
    refine z_iload (pc := 75) d_Pulses_add_75 0 rfl ?_
    refine z_iload (pc := 77) d_Pulses_add_77 6 rfl ?_
    refine z_iastore (pc := 79) d_Pulses_add_79 (fun D14 => ?_)
    refine z_aload_n (pc := 80) d_Pulses_add_80 rfl 1 rfl ?_
    refine z_getR (pc := 81) fl_Pulses_25 d_Pulses_add_81 (fun p15 => ?_)
    refine z_iload (pc := 84) d_Pulses_add_84 0 rfl ?_
    refine z_iconst (pc := 86) d_Pulses_add_86 ki_0 ?_
    refine z_iastore (pc := 87) d_Pulses_add_87 (fun D16 => ?_)
    refine z_aload_n (pc := 88) d_Pulses_add_88 rfl 1 rfl ?_
    refine z_dup (pc := 89) d_Pulses_add_89 rfl ?_
    refine z_getI (pc := 90) fl_Pulses_32 d_Pulses_add_90 (fun v17 => ?_)
    refine z_iconst (pc := 93) d_Pulses_add_93 ki_1 ?_
    refine z_iadd (pc := 94) d_Pulses_add_94 ?_
    refine z_putI (pc := 95) fl_Pulses_32 d_Pulses_add_95 (fun D18 => ?_)
    exact z_vret (pc := 98) d_Pulses_add_98 rfl
  · refine z_aload_n (pc := 0) d_Pulses_add_0 rfl 0 rfl ?_
    refine z_getI (pc := 1) fl_Pulses_32 d_Pulses_add_1 (fun v19 => ?_)
    refine z_bipush (pc := 4) d_Pulses_add_4 kb_60 ?_
    refine z_icmp_lt (pc := 6) (tgt := 28) d_Pulses_add_6 (by decide) ?_ ?_
    · exact z_sub [0, 1, 2, 3, 4, 5] rfl (h28 D)
    · refine z_aload_n (pc := 9) d_Pulses_add_9 rfl 0 rfl ?_
      refine z_aload_n (pc := 10) d_Pulses_add_10 rfl 0 rfl ?_
      refine z_iconst (pc := 11) d_Pulses_add_11 ki_1 ?_
      refine z_callVi (pc := 12) [.int (1 : Int32)] lkV_Pulses_41 rfl (c_Pulses_rowOf z D a (1 : Int32)) (by decide) rfl rfl (Nat.le_of_ble_eq_true rfl) d_Pulses_add_12 (fun v20 D21 => ?_)
      refine z_putI (pc := 15) fl_Pulses_28 d_Pulses_add_15 (fun D22 => ?_)
      refine z_aload_n (pc := 18) d_Pulses_add_18 rfl 0 rfl ?_
      refine z_dup (pc := 19) d_Pulses_add_19 rfl ?_
      refine z_getI (pc := 20) fl_Pulses_32 d_Pulses_add_20 (fun v23 => ?_)
      refine z_iconst (pc := 23) d_Pulses_add_23 ki_1 ?_
      refine z_isub (pc := 24) d_Pulses_add_24 ?_
      refine z_putI (pc := 25) fl_Pulses_32 d_Pulses_add_25 (fun D24 => ?_)
      exact z_sub [0, 1, 2, 3, 4, 5] rfl (h28 D24)
theorem d_Ears_init_0 : decode Y_Ears_init.2.1 0 = .ok (.aload_n 0, 1) := by decide +kernel
theorem d_Ears_init_1 : decode Y_Ears_init.2.1 1 = .ok (.invokespecial 7, 3) := by decide +kernel
theorem d_Ears_init_4 : decode Y_Ears_init.2.1 4 = .ok (.aload_n 0, 1) := by decide +kernel
theorem d_Ears_init_5 : decode Y_Ears_init.2.1 5 = .ok (.bipush (16), 2) := by decide +kernel
theorem d_Ears_init_7 : decode Y_Ears_init.2.1 7 = .ok (.newarray .int, 2) := by decide +kernel
theorem d_Ears_init_9 : decode Y_Ears_init.2.1 9 = .ok (.putfield 15, 3) := by decide +kernel
theorem d_Ears_init_12 : decode Y_Ears_init.2.1 12 = .ok (.aload_n 0, 1) := by decide +kernel
theorem d_Ears_init_13 : decode Y_Ears_init.2.1 13 = .ok (.bipush (16), 2) := by decide +kernel
theorem d_Ears_init_15 : decode Y_Ears_init.2.1 15 = .ok (.newarray .int, 2) := by decide +kernel
theorem d_Ears_init_17 : decode Y_Ears_init.2.1 17 = .ok (.putfield 19, 3) := by decide +kernel
theorem d_Ears_init_20 : decode Y_Ears_init.2.1 20 = .ok (.aload_n 0, 1) := by decide +kernel
theorem d_Ears_init_21 : decode Y_Ears_init.2.1 21 = .ok (.bipush (16), 2) := by decide +kernel
theorem d_Ears_init_23 : decode Y_Ears_init.2.1 23 = .ok (.newarray .int, 2) := by decide +kernel
theorem d_Ears_init_25 : decode Y_Ears_init.2.1 25 = .ok (.putfield 22, 3) := by decide +kernel
theorem d_Ears_init_28 : decode Y_Ears_init.2.1 28 = .ok (.aload_n 0, 1) := by decide +kernel
theorem d_Ears_init_29 : decode Y_Ears_init.2.1 29 = .ok (.bipush (16), 2) := by decide +kernel
theorem d_Ears_init_31 : decode Y_Ears_init.2.1 31 = .ok (.newarray .int, 2) := by decide +kernel
theorem d_Ears_init_33 : decode Y_Ears_init.2.1 33 = .ok (.putfield 25, 3) := by decide +kernel
theorem d_Ears_init_36 : decode Y_Ears_init.2.1 36 = .ok (.aload_n 0, 1) := by decide +kernel
theorem d_Ears_init_37 : decode Y_Ears_init.2.1 37 = .ok (.bipush (16), 2) := by decide +kernel
theorem d_Ears_init_39 : decode Y_Ears_init.2.1 39 = .ok (.newarray .int, 2) := by decide +kernel
theorem d_Ears_init_41 : decode Y_Ears_init.2.1 41 = .ok (.putfield 28, 3) := by decide +kernel
theorem d_Ears_init_44 : decode Y_Ears_init.2.1 44 = .ok (.aload_n 0, 1) := by decide +kernel
theorem d_Ears_init_45 : decode Y_Ears_init.2.1 45 = .ok (.bipush (16), 2) := by decide +kernel
theorem d_Ears_init_47 : decode Y_Ears_init.2.1 47 = .ok (.newarray .int, 2) := by decide +kernel
theorem d_Ears_init_49 : decode Y_Ears_init.2.1 49 = .ok (.putfield 31, 3) := by decide +kernel
theorem d_Ears_init_52 : decode Y_Ears_init.2.1 52 = .ok (.aload_n 0, 1) := by decide +kernel
theorem d_Ears_init_53 : decode Y_Ears_init.2.1 53 = .ok (.getfield 25, 3) := by decide +kernel
theorem d_Ears_init_56 : decode Y_Ears_init.2.1 56 = .ok (.iconst (-1), 1) := by decide +kernel
theorem d_Ears_init_57 : decode Y_Ears_init.2.1 57 = .ok (.invokestatic 34, 3) := by decide +kernel
theorem d_Ears_init_60 : decode Y_Ears_init.2.1 60 = .ok (.aload_n 0, 1) := by decide +kernel
theorem d_Ears_init_61 : decode Y_Ears_init.2.1 61 = .ok (.getfield 28, 3) := by decide +kernel
theorem d_Ears_init_64 : decode Y_Ears_init.2.1 64 = .ok (.iconst (-1), 1) := by decide +kernel
theorem d_Ears_init_65 : decode Y_Ears_init.2.1 65 = .ok (.invokestatic 34, 3) := by decide +kernel
theorem d_Ears_init_68 : decode Y_Ears_init.2.1 68 = .ok (.aload_n 0, 1) := by decide +kernel
theorem d_Ears_init_69 : decode Y_Ears_init.2.1 69 = .ok (.getfield 31, 3) := by decide +kernel
theorem d_Ears_init_72 : decode Y_Ears_init.2.1 72 = .ok (.iconst (-1), 1) := by decide +kernel
theorem d_Ears_init_73 : decode Y_Ears_init.2.1 73 = .ok (.invokestatic 34, 3) := by decide +kernel
theorem d_Ears_init_76 : decode Y_Ears_init.2.1 76 = .ok (.return_, 1) := by decide +kernel
def f_Ears_init (z : zT) (D : zD) (a : Nat) : Option (zT × zD) := znew z D (.inl (0, 16)) (fun q1 z2 D3 => zputR z2 1 0 a q1 (fun z4 => znew z4 D3 (.inl (0, 16)) (fun q5 z6 D7 => zputR z6 1 1 a q5 (fun z8 => znew z8 D7 (.inl (0, 16)) (fun q9 z10 D11 => zputR z10 1 2 a q9 (fun z12 => znew z12 D11 (.inl (0, 16)) (fun q13 z14 D15 => zputR z14 1 3 a q13 (fun z16 => znew z16 D15 (.inl (0, 16)) (fun q17 z18 D19 => zputR z18 1 4 a q17 (fun z20 => znew z20 D19 (.inl (0, 16)) (fun q21 z22 D23 => zputR z22 1 5 a q21 (fun z24 => zref z24.2 1 3 a (fun p25 => zcv (f_Arrays_fill z24.2 D23 p25 (-1 : Int32)) (fun D26 => zref z24.2 1 4 a (fun p27 => zcv (f_Arrays_fill z24.2 D26 p27 (-1 : Int32)) (fun D28 => zref z24.2 1 5 a (fun p29 => zcv (f_Arrays_fill z24.2 D28 p29 (-1 : Int32)) (fun D30 => some (z24, D30)))))))))))))))))))
set_option maxHeartbeats 4000000 in
set_option maxRecDepth 100000 in
theorem c_Ears_init (z : zT) (D : zD) (a : Nat) : zM Y_Ears_init 2 6 96 zqC (f_Ears_init z D a) [.ref a] z D := by
  refine zM_of (plainFor_of_name (by decide +kernel)) rfl (Nat.le_of_ble_eq_true rfl) (fun _ _ _ _ h => nomatch h.1) (fun K => ?_)
  unfold f_Ears_init
  refine z_aload_n (pc := 0) d_Ears_init_0 rfl 0 rfl ?_
  refine z_objInit (pc := 1) w_ml_Ears_7 w_oi1 w_oi2 (by decide) (Nat.le_of_ble_eq_true rfl) d_Ears_init_1 ?_
  refine z_aload_n (pc := 4) d_Ears_init_4 rfl 0 rfl ?_
  refine z_bipush (pc := 5) d_Ears_init_5 kb_16 ?_
  refine z_newI (pc := 7) (kc2 := 5) (ks2 := 80) w_ac_int (by decide) (by decide) (Nat.le_of_ble_eq_true rfl) (by decide) (by decide) d_Ears_init_7 (fun q1 z2 D3 => ?_)
  refine z_putR (pc := 9) fl_Ears_15 rfl (fun _ _ _ h => by cases h; rfl) (Or.inr ⟨_, rfl⟩) d_Ears_init_9 (fun z4 => ?_)
  refine z_aload_n (pc := 12) d_Ears_init_12 rfl 0 rfl ?_
  refine z_bipush (pc := 13) d_Ears_init_13 kb_16 ?_
  refine z_newI (pc := 15) (kc2 := 4) (ks2 := 64) w_ac_int (by decide) (by decide) (Nat.le_of_ble_eq_true rfl) (by decide) (by decide) d_Ears_init_15 (fun q5 z6 D7 => ?_)
  refine z_putR (pc := 17) fl_Ears_19 rfl (fun _ _ _ h => by cases h; rfl) (Or.inr ⟨_, rfl⟩) d_Ears_init_17 (fun z8 => ?_)
  refine z_aload_n (pc := 20) d_Ears_init_20 rfl 0 rfl ?_
  refine z_bipush (pc := 21) d_Ears_init_21 kb_16 ?_
  refine z_newI (pc := 23) (kc2 := 3) (ks2 := 48) w_ac_int (by decide) (by decide) (Nat.le_of_ble_eq_true rfl) (by decide) (by decide) d_Ears_init_23 (fun q9 z10 D11 => ?_)
  refine z_putR (pc := 25) fl_Ears_22 rfl (fun _ _ _ h => by cases h; rfl) (Or.inr ⟨_, rfl⟩) d_Ears_init_25 (fun z12 => ?_)
  refine z_aload_n (pc := 28) d_Ears_init_28 rfl 0 rfl ?_
  refine z_bipush (pc := 29) d_Ears_init_29 kb_16 ?_
  refine z_newI (pc := 31) (kc2 := 2) (ks2 := 32) w_ac_int (by decide) (by decide) (Nat.le_of_ble_eq_true rfl) (by decide) (by decide) d_Ears_init_31 (fun q13 z14 D15 => ?_)
  refine z_putR (pc := 33) fl_Ears_25 rfl (fun _ _ _ h => by cases h; rfl) (Or.inr ⟨_, rfl⟩) d_Ears_init_33 (fun z16 => ?_)
  refine z_aload_n (pc := 36) d_Ears_init_36 rfl 0 rfl ?_
  refine z_bipush (pc := 37) d_Ears_init_37 kb_16 ?_
  refine z_newI (pc := 39) (kc2 := 1) (ks2 := 16) w_ac_int (by decide) (by decide) (Nat.le_of_ble_eq_true rfl) (by decide) (by decide) d_Ears_init_39 (fun q17 z18 D19 => ?_)
  refine z_putR (pc := 41) fl_Ears_28 rfl (fun _ _ _ h => by cases h; rfl) (Or.inr ⟨_, rfl⟩) d_Ears_init_41 (fun z20 => ?_)
  refine z_aload_n (pc := 44) d_Ears_init_44 rfl 0 rfl ?_
  refine z_bipush (pc := 45) d_Ears_init_45 kb_16 ?_
  refine z_newI (pc := 47) (kc2 := 0) (ks2 := 0) w_ac_int (by decide) (by decide) (Nat.le_of_ble_eq_true rfl) (by decide) (by decide) d_Ears_init_47 (fun q21 z22 D23 => ?_)
  refine z_putR (pc := 49) fl_Ears_31 rfl (fun _ _ _ h => by cases h; rfl) (Or.inr ⟨_, rfl⟩) d_Ears_init_49 (fun z24 => ?_)
  refine z_aload_n (pc := 52) d_Ears_init_52 rfl 0 rfl ?_
  refine z_getR (pc := 53) fl_Ears_25 d_Ears_init_53 (fun p25 => ?_)
  refine z_iconst (pc := 56) d_Ears_init_56 ki_m1 ?_
  refine z_callSv (pc := 57) [.ref p25, .int (-1 : Int32)] lkS_Ears_34 (c_Arrays_fill z24 D23 p25 (-1 : Int32)) (by decide) rfl rfl (Nat.le_of_ble_eq_true rfl) d_Ears_init_57 (fun D26 => ?_)
  refine z_aload_n (pc := 60) d_Ears_init_60 rfl 0 rfl ?_
  refine z_getR (pc := 61) fl_Ears_28 d_Ears_init_61 (fun p27 => ?_)
  refine z_iconst (pc := 64) d_Ears_init_64 ki_m1 ?_
  refine z_callSv (pc := 65) [.ref p27, .int (-1 : Int32)] lkS_Ears_34 (c_Arrays_fill z24 D26 p27 (-1 : Int32)) (by decide) rfl rfl (Nat.le_of_ble_eq_true rfl) d_Ears_init_65 (fun D28 => ?_)
  refine z_aload_n (pc := 68) d_Ears_init_68 rfl 0 rfl ?_
  refine z_getR (pc := 69) fl_Ears_31 d_Ears_init_69 (fun p29 => ?_)
  refine z_iconst (pc := 72) d_Ears_init_72 ki_m1 ?_
  refine z_callSv (pc := 73) [.ref p29, .int (-1 : Int32)] lkS_Ears_34 (c_Arrays_fill z24 D28 p29 (-1 : Int32)) (by decide) rfl rfl (Nat.le_of_ble_eq_true rfl) d_Ears_init_73 (fun D30 => ?_)
  exact z_cret (pc := 76) d_Ears_init_76 rfl
