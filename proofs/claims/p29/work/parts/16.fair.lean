theorem kb_100 : (Int8.ofInt (100)).toInt32 = (100 : Int32) := by decide +kernel
theorem kb_12 : (Int8.ofInt (12)).toInt32 = (12 : Int32) := by decide +kernel
theorem kb_14 : (Int8.ofInt (14)).toInt32 = (14 : Int32) := by decide +kernel
theorem kb_30 : (Int8.ofInt (30)).toInt32 = (30 : Int32) := by decide +kernel
theorem kb_61 : (Int8.ofInt (61)).toInt32 = (61 : Int32) := by decide +kernel
theorem kb_64 : (Int8.ofInt (64)).toInt32 = (64 : Int32) := by decide +kernel
theorem kb_7 : (Int8.ofInt (7)).toInt32 = (7 : Int32) := by decide +kernel
theorem kb_81 : (Int8.ofInt (81)).toInt32 = (81 : Int32) := by decide +kernel
theorem ks_1000 : (Int16.ofInt (1000)).toInt32 = (1000 : Int32) := by decide +kernel
theorem ks_10000 : (Int16.ofInt (10000)).toInt32 = (10000 : Int32) := by decide +kernel
theorem ks_128 : (Int16.ofInt (128)).toInt32 = (128 : Int32) := by decide +kernel
theorem ks_16384 : (Int16.ofInt (16384)).toInt32 = (16384 : Int32) := by decide +kernel
theorem ks_4096 : (Int16.ofInt (4096)).toInt32 = (4096 : Int32) := by decide +kernel
def Y_SF_forgetRemembered : zY := (⟨"SirenFair", "forgetRemembered", "()V"⟩, prog_1_method_22_code, 1, none, [])
theorem w_fl_SF_332 : Cond.fieldLink "SirenFair" 332 "SirenFair" "oldestRemembered" "I" ∈ zWd := zin 316 (by decide +kernel) rfl
theorem in_SirenFair : ∀ w ∈ u_ws "SirenFair" T_SirenFair 9, w ∈ zWd := by decide +kernel
theorem zc_SirenFair : zcls 0 "SirenFair" T_SirenFair 9 ty_SirenFair := ⟨rfl, in_SirenFair, nm_SirenFair, tyok_SirenFair⟩
theorem fl_SF_332 : zfl "SirenFair" 332 0 5 (.int) false := ⟨_, _, _, _, zc_SirenFair, by decide, w_fl_SF_332, rfl, rfl, rfl⟩
theorem w_fl_SF_327 : Cond.fieldLink "SirenFair" 327 "SirenFair" "rememberedCount" "I" ∈ zWd := zin 317 (by decide +kernel) rfl
theorem fl_SF_327 : zfl "SirenFair" 327 0 6 (.int) false := ⟨_, _, _, _, zc_SirenFair, by decide, w_fl_SF_327, rfl, rfl, rfl⟩
def Y_SF_remember : zY := (⟨"SirenFair", "remember", "()V"⟩, prog_1_method_21_code, 1, none, [])
theorem w_fl_SF_29 : Cond.fieldLink "SirenFair" 29 "SirenFair" "remembered" "[LSirenFair$Field;" ∈ zWd := zin 315 (by decide +kernel) rfl
theorem fl_SF_29 : zfl "SirenFair" 29 0 4 (.array (.object "SirenFair$Field")) true := ⟨_, _, _, _, zc_SirenFair, by decide, w_fl_SF_29, rfl, rfl, rfl⟩
theorem w_fl_SF_19 : Cond.fieldLink "SirenFair" 19 "SirenFair" "present" "LSirenFair$Field;" ∈ zWd := zin 312 (by decide +kernel) rfl
theorem fl_SF_19 : zfl "SirenFair" 19 0 1 (.object "SirenFair$Field") true := ⟨_, _, _, _, zc_SirenFair, by decide, w_fl_SF_19, rfl, rfl, rfl⟩
theorem w_c_Field_copyFrom : Cond.code Y_Field_copyFrom.1 Y_Field_copyFrom.2.1 Y_Field_copyFrom.2.2.1 Y_Field_copyFrom.2.2.2.1 ∈ zWd := zin 443 (by decide +kernel) rfl
theorem lk_Field_copyFrom : zlk Y_Field_copyFrom 1 := ⟨w_c_Field_copyFrom, w_ini_Field, by decide +kernel, by decide +kernel, by decide⟩
theorem w_ml_SF_70 : Cond.methodLink "SirenFair" 70 Y_Field_copyFrom.1 ∈ zWd := zin 440 (by decide +kernel) rfl
theorem w_im_Field_copyFrom : Cond.instanceMethod Y_Field_copyFrom.1 ∈ zWd := zin 441 (by decide +kernel) rfl
theorem w_sel_Field_copyFrom : Cond.selects "SirenFair$Field" Y_Field_copyFrom.1 Y_Field_copyFrom.1 ∈ zWd := zin 442 (by decide +kernel) rfl
theorem lkV_SF_70 : zlkV "SirenFair" 70 Y_Field_copyFrom 1 := ⟨lk_Field_copyFrom, w_ml_SF_70, w_im_Field_copyFrom, w_sel_Field_copyFrom⟩
def Y_SF_quietIn : zY := (⟨"SirenFair", "quietIn", "()I"⟩, prog_1_method_25_code, 2, some .int, [])
theorem w_fl_SF_26 : Cond.fieldLink "SirenFair" 26 "SirenFair" "trial" "LSirenFair$Field;" ∈ zWd := zin 314 (by decide +kernel) rfl
theorem fl_SF_26 : zfl "SirenFair" 26 0 3 (.object "SirenFair$Field") true := ⟨_, _, _, _, zc_SirenFair, by decide, w_fl_SF_26, rfl, rfl, rfl⟩
theorem w_fl_SF_98 : Cond.fieldLink "SirenFair" 98 "SirenFair$Field" "sirens" "LSirenFair$Sirens;" ∈ zWd := zin 275 (by decide +kernel) rfl
theorem fl_SF_98 : zfl "SirenFair" 98 3 0 (.object "SirenFair$Sirens") true := ⟨_, _, _, _, zc_Field, by decide, w_fl_SF_98, rfl, rfl, rfl⟩
theorem w_fl_SF_144 : Cond.fieldLink "SirenFair" 144 "SirenFair$Field" "pulses" "LSirenFair$Pulses;" ∈ zWd := zin 281 (by decide +kernel) rfl
theorem fl_SF_144 : zfl "SirenFair" 144 3 3 (.object "SirenFair$Pulses") true := ⟨_, _, _, _, zc_Field, by decide, w_fl_SF_144, rfl, rfl, rfl⟩
theorem w_fl_SF_148 : Cond.fieldLink "SirenFair" 148 "SirenFair$Pulses" "count" "I" ∈ zWd := zin 208 (by decide +kernel) rfl
theorem fl_SF_148 : zfl "SirenFair" 148 5 7 (.int) false := ⟨_, _, _, _, zc_Pulses, by decide, w_fl_SF_148, rfl, rfl, rfl⟩
theorem w_ml_SF_343 : Cond.methodLink "SirenFair" 343 Y_Field_tick.1 ∈ zWd := zin 855 (by decide +kernel) rfl
theorem lkV_SF_343 : zlkV "SirenFair" 343 Y_Field_tick 0 := ⟨lk_Field_tick, w_ml_SF_343, w_im_Field_tick, w_sel_Field_tick⟩
theorem w_c_Sirens_turnAllOff : Cond.code Y_Sirens_turnAllOff.1 Y_Sirens_turnAllOff.2.1 Y_Sirens_turnAllOff.2.2.1 Y_Sirens_turnAllOff.2.2.2.1 ∈ zWd := zin 947 (by decide +kernel) rfl
theorem lk_Sirens_turnAllOff : zlk Y_Sirens_turnAllOff 0 := ⟨w_c_Sirens_turnAllOff, w_ini_Sirens, by decide +kernel, by decide +kernel, by decide⟩
theorem w_ml_SF_345 : Cond.methodLink "SirenFair" 345 Y_Sirens_turnAllOff.1 ∈ zWd := zin 944 (by decide +kernel) rfl
theorem w_im_Sirens_turnAllOff : Cond.instanceMethod Y_Sirens_turnAllOff.1 ∈ zWd := zin 945 (by decide +kernel) rfl
theorem w_sel_Sirens_turnAllOff : Cond.selects "SirenFair$Sirens" Y_Sirens_turnAllOff.1 Y_Sirens_turnAllOff.1 ∈ zWd := zin 946 (by decide +kernel) rfl
theorem lkV_SF_345 : zlkV "SirenFair" 345 Y_Sirens_turnAllOff 0 := ⟨lk_Sirens_turnAllOff, w_ml_SF_345, w_im_Sirens_turnAllOff, w_sel_Sirens_turnAllOff⟩
def Y_SF_obeys : zY := (⟨"SirenFair", "obeys", "(LSirenFair$Field;I[I)Z"⟩, prog_1_method_6_code, 3, some .boolean, [])
theorem w_fl_SF_116 : Cond.fieldLink "SirenFair" 116 "SirenFair$Field" "walls" "LSirenFair$Walls;" ∈ zWd := zin 279 (by decide +kernel) rfl
theorem fl_SF_116 : zfl "SirenFair" 116 3 2 (.object "SirenFair$Walls") true := ⟨_, _, _, _, zc_Field, by decide, w_fl_SF_116, rfl, rfl, rfl⟩
theorem w_fl_SF_107 : Cond.fieldLink "SirenFair" 107 "SirenFair$Field" "hearers" "LSirenFair$Hearers;" ∈ zWd := zin 277 (by decide +kernel) rfl
theorem fl_SF_107 : zfl "SirenFair" 107 3 1 (.object "SirenFair$Hearers") true := ⟨_, _, _, _, zc_Field, by decide, w_fl_SF_107, rfl, rfl, rfl⟩
theorem w_fl_SF_129 : Cond.fieldLink "SirenFair" 129 "SirenFair$Field" "speedOfSound" "I" ∈ zWd := zin 289 (by decide +kernel) rfl
theorem fl_SF_129 : zfl "SirenFair" 129 3 7 (.int) false := ⟨_, _, _, _, zc_Field, by decide, w_fl_SF_129, rfl, rfl, rfl⟩
theorem w_c_Hearers_add : Cond.code Y_Hearers_add.1 Y_Hearers_add.2.1 Y_Hearers_add.2.2.1 Y_Hearers_add.2.2.2.1 ∈ zWd := zin 490 (by decide +kernel) rfl
theorem lk_Hearers_add : zlk Y_Hearers_add 4 := ⟨w_c_Hearers_add, w_ini_Hearers, by decide +kernel, by decide +kernel, by decide⟩
theorem w_ml_SF_111 : Cond.methodLink "SirenFair" 111 Y_Hearers_add.1 ∈ zWd := zin 487 (by decide +kernel) rfl
theorem w_im_Hearers_add : Cond.instanceMethod Y_Hearers_add.1 ∈ zWd := zin 488 (by decide +kernel) rfl
theorem w_sel_Hearers_add : Cond.selects "SirenFair$Hearers" Y_Hearers_add.1 Y_Hearers_add.1 ∈ zWd := zin 489 (by decide +kernel) rfl
theorem lkV_SF_111 : zlkV "SirenFair" 111 Y_Hearers_add 4 := ⟨lk_Hearers_add, w_ml_SF_111, w_im_Hearers_add, w_sel_Hearers_add⟩
theorem w_c_Sirens_turnTo : Cond.code Y_Sirens_turnTo.1 Y_Sirens_turnTo.2.1 Y_Sirens_turnTo.2.2.1 Y_Sirens_turnTo.2.2.2.1 ∈ zWd := zin 575 (by decide +kernel) rfl
theorem lk_Sirens_turnTo : zlk Y_Sirens_turnTo 2 := ⟨w_c_Sirens_turnTo, w_ini_Sirens, by decide +kernel, by decide +kernel, by decide⟩
theorem w_ml_SF_125 : Cond.methodLink "SirenFair" 125 Y_Sirens_turnTo.1 ∈ zWd := zin 572 (by decide +kernel) rfl
theorem w_im_Sirens_turnTo : Cond.instanceMethod Y_Sirens_turnTo.1 ∈ zWd := zin 573 (by decide +kernel) rfl
theorem w_sel_Sirens_turnTo : Cond.selects "SirenFair$Sirens" Y_Sirens_turnTo.1 Y_Sirens_turnTo.1 ∈ zWd := zin 574 (by decide +kernel) rfl
theorem lkV_SF_125 : zlkV "SirenFair" 125 Y_Sirens_turnTo 2 := ⟨lk_Sirens_turnTo, w_ml_SF_125, w_im_Sirens_turnTo, w_sel_Sirens_turnTo⟩
theorem w_c_Sirens_add : Cond.code Y_Sirens_add.1 Y_Sirens_add.2.1 Y_Sirens_add.2.2.1 Y_Sirens_add.2.2.2.1 ∈ zWd := zin 474 (by decide +kernel) rfl
theorem lk_Sirens_add : zlk Y_Sirens_add 5 := ⟨w_c_Sirens_add, w_ini_Sirens, by decide +kernel, by decide +kernel, by decide⟩
theorem w_ml_SF_102 : Cond.methodLink "SirenFair" 102 Y_Sirens_add.1 ∈ zWd := zin 471 (by decide +kernel) rfl
theorem w_im_Sirens_add : Cond.instanceMethod Y_Sirens_add.1 ∈ zWd := zin 472 (by decide +kernel) rfl
theorem w_sel_Sirens_add : Cond.selects "SirenFair$Sirens" Y_Sirens_add.1 Y_Sirens_add.1 ∈ zWd := zin 473 (by decide +kernel) rfl
theorem lkV_SF_102 : zlkV "SirenFair" 102 Y_Sirens_add 5 := ⟨lk_Sirens_add, w_ml_SF_102, w_im_Sirens_add, w_sel_Sirens_add⟩
theorem w_c_Field_pass : Cond.code Y_Field_pass.1 Y_Field_pass.2.1 Y_Field_pass.2.2.1 Y_Field_pass.2.2.2.1 ∈ zWd := zin 583 (by decide +kernel) rfl
theorem lk_Field_pass : zlk Y_Field_pass 1 := ⟨w_c_Field_pass, w_ini_Field, by decide +kernel, by decide +kernel, by decide⟩
theorem w_ml_SF_132 : Cond.methodLink "SirenFair" 132 Y_Field_pass.1 ∈ zWd := zin 580 (by decide +kernel) rfl
theorem w_im_Field_pass : Cond.instanceMethod Y_Field_pass.1 ∈ zWd := zin 581 (by decide +kernel) rfl
theorem w_sel_Field_pass : Cond.selects "SirenFair$Field" Y_Field_pass.1 Y_Field_pass.1 ∈ zWd := zin 582 (by decide +kernel) rfl
theorem lkV_SF_132 : zlkV "SirenFair" 132 Y_Field_pass 1 := ⟨lk_Field_pass, w_ml_SF_132, w_im_Field_pass, w_sel_Field_pass⟩
theorem w_c_Walls_add : Cond.code Y_Walls_add.1 Y_Walls_add.2.1 Y_Walls_add.2.2.1 Y_Walls_add.2.2.2.1 ∈ zWd := zin 571 (by decide +kernel) rfl
theorem lk_Walls_add : zlk Y_Walls_add 2 := ⟨w_c_Walls_add, w_ini_Walls, by decide +kernel, by decide +kernel, by decide⟩
theorem w_ml_SF_120 : Cond.methodLink "SirenFair" 120 Y_Walls_add.1 ∈ zWd := zin 568 (by decide +kernel) rfl
theorem w_im_Walls_add : Cond.instanceMethod Y_Walls_add.1 ∈ zWd := zin 569 (by decide +kernel) rfl
theorem w_sel_Walls_add : Cond.selects "SirenFair$Walls" Y_Walls_add.1 Y_Walls_add.1 ∈ zWd := zin 570 (by decide +kernel) rfl
theorem lkV_SF_120 : zlkV "SirenFair" 120 Y_Walls_add 2 := ⟨lk_Walls_add, w_ml_SF_120, w_im_Walls_add, w_sel_Walls_add⟩
def Y_SF_succeeds : zY := (⟨"SirenFair", "succeeds", "(LSirenFair$Field;I)Z"⟩, prog_1_method_28_code, 7, some .boolean, [])
theorem w_fl_SF_201 : Cond.fieldLink "SirenFair" 201 "SirenFair$Sirens" "place" "[I" ∈ zWd := zin 94 (by decide +kernel) rfl
theorem fl_SF_201 : zfl "SirenFair" 201 6 5 (.array (.int)) true := ⟨_, _, _, _, zc_Sirens, by decide, w_fl_SF_201, rfl, rfl, rfl⟩
theorem w_fl_SF_227 : Cond.fieldLink "SirenFair" 227 "SirenFair$Hearers" "beats" "[I" ∈ zWd := zin 135 (by decide +kernel) rfl
theorem fl_SF_227 : zfl "SirenFair" 227 4 4 (.array (.int)) true := ⟨_, _, _, _, zc_Hearers, by decide, w_fl_SF_227, rfl, rfl, rfl⟩
theorem w_fl_SF_154 : Cond.fieldLink "SirenFair" 154 "SirenFair$Field" "ears" "LSirenFair$Ears;" ∈ zWd := zin 283 (by decide +kernel) rfl
theorem fl_SF_154 : zfl "SirenFair" 154 3 4 (.object "SirenFair$Ears") true := ⟨_, _, _, _, zc_Field, by decide, w_fl_SF_154, rfl, rfl, rfl⟩
theorem w_fl_SF_274 : Cond.fieldLink "SirenFair" 274 "SirenFair$Ears" "direct" "[I" ∈ zWd := zin 237 (by decide +kernel) rfl
theorem fl_SF_274 : zfl "SirenFair" 274 1 0 (.array (.int)) true := ⟨_, _, _, _, zc_Ears, by decide, w_fl_SF_274, rfl, rfl, rfl⟩
theorem w_c_Hearers_send : Cond.code Y_Hearers_send.1 Y_Hearers_send.2.1 Y_Hearers_send.2.2.1 Y_Hearers_send.2.2.2.1 ∈ zWd := zin 795 (by decide +kernel) rfl
theorem lk_Hearers_send : zlk Y_Hearers_send 3 := ⟨w_c_Hearers_send, w_ini_Hearers, by decide +kernel, by decide +kernel, by decide⟩
theorem w_ml_SF_314 : Cond.methodLink "SirenFair" 314 Y_Hearers_send.1 ∈ zWd := zin 792 (by decide +kernel) rfl
theorem w_im_Hearers_send : Cond.instanceMethod Y_Hearers_send.1 ∈ zWd := zin 793 (by decide +kernel) rfl
theorem w_sel_Hearers_send : Cond.selects "SirenFair$Hearers" Y_Hearers_send.1 Y_Hearers_send.1 ∈ zWd := zin 794 (by decide +kernel) rfl
theorem lkV_SF_314 : zlkV "SirenFair" 314 Y_Hearers_send 3 := ⟨lk_Hearers_send, w_ml_SF_314, w_im_Hearers_send, w_sel_Hearers_send⟩
theorem w_c_Field_isSetting : Cond.code Y_Field_isSetting.1 Y_Field_isSetting.2.1 Y_Field_isSetting.2.2.1 Y_Field_isSetting.2.2.2.1 ∈ zWd := zin 814 (by decide +kernel) rfl
theorem lk_Field_isSetting : zlk Y_Field_isSetting 2 := ⟨w_c_Field_isSetting, w_ini_Field, by decide +kernel, by decide +kernel, by decide⟩
theorem w_ml_SF_319 : Cond.methodLink "SirenFair" 319 Y_Field_isSetting.1 ∈ zWd := zin 812 (by decide +kernel) rfl
theorem w_st_Field_isSetting : Cond.static Y_Field_isSetting.1 ∈ zWd := zin 813 (by decide +kernel) rfl
theorem lkS_SF_319 : zlkS "SirenFair" 319 Y_Field_isSetting 2 := ⟨lk_Field_isSetting, w_ml_SF_319, w_st_Field_isSetting⟩
theorem w_c_Field_change : Cond.code Y_Field_change.1 Y_Field_change.2.1 Y_Field_change.2.2.1 Y_Field_change.2.2.2.1 ∈ zWd := zin 820 (by decide +kernel) rfl
theorem lk_Field_change : zlk Y_Field_change 2 := ⟨w_c_Field_change, w_ini_Field, by decide +kernel, by decide +kernel, by decide⟩
theorem w_ml_SF_324 : Cond.methodLink "SirenFair" 324 Y_Field_change.1 ∈ zWd := zin 817 (by decide +kernel) rfl
theorem w_im_Field_change : Cond.instanceMethod Y_Field_change.1 ∈ zWd := zin 818 (by decide +kernel) rfl
theorem w_sel_Field_change : Cond.selects "SirenFair$Field" Y_Field_change.1 Y_Field_change.1 ∈ zWd := zin 819 (by decide +kernel) rfl
theorem lkV_SF_324 : zlkV "SirenFair" 324 Y_Field_change 2 := ⟨lk_Field_change, w_ml_SF_324, w_im_Field_change, w_sel_Field_change⟩
theorem w_ml_SF_265 : Cond.methodLink "SirenFair" 265 Y_Field_hasPair.1 ∈ zWd := zin 772 (by decide +kernel) rfl
theorem lkV_SF_265 : zlkV "SirenFair" 265 Y_Field_hasPair 2 := ⟨lk_Field_hasPair, w_ml_SF_265, w_im_Field_hasPair, w_sel_Field_hasPair⟩
theorem w_ml_SF_271 : Cond.methodLink "SirenFair" 271 Y_Ears_pairOf.1 ∈ zWd := zin 779 (by decide +kernel) rfl
theorem lkS_SF_271 : zlkS "SirenFair" 271 Y_Ears_pairOf 2 := ⟨lk_Ears_pairOf, w_ml_SF_271, w_st_Ears_pairOf⟩
theorem w_ml_SF_216 : Cond.methodLink "SirenFair" 216 Y_Hearers_has.1 ∈ zWd := zin 730 (by decide +kernel) rfl
theorem lkV_SF_216 : zlkV "SirenFair" 216 Y_Hearers_has 1 := ⟨lk_Hearers_has, w_ml_SF_216, w_im_Hearers_has, w_sel_Hearers_has⟩
theorem w_ml_SF_174 : Cond.methodLink "SirenFair" 174 Y_Sirens_has.1 ∈ zWd := zin 702 (by decide +kernel) rfl
theorem lkV_SF_174 : zlkV "SirenFair" 174 Y_Sirens_has 1 := ⟨lk_Sirens_has, w_ml_SF_174, w_im_Sirens_has, w_sel_Sirens_has⟩
theorem w_c_Field_soundOf : Cond.code Y_Field_soundOf.1 Y_Field_soundOf.2.1 Y_Field_soundOf.2.2.1 Y_Field_soundOf.2.2.2.1 ∈ zWd := zin 783 (by decide +kernel) rfl
theorem lk_Field_soundOf : zlk Y_Field_soundOf 2 := ⟨w_c_Field_soundOf, w_ini_Field, by decide +kernel, by decide +kernel, by decide⟩
theorem w_ml_SF_289 : Cond.methodLink "SirenFair" 289 Y_Field_soundOf.1 ∈ zWd := zin 780 (by decide +kernel) rfl
theorem w_im_Field_soundOf : Cond.instanceMethod Y_Field_soundOf.1 ∈ zWd := zin 781 (by decide +kernel) rfl
theorem w_sel_Field_soundOf : Cond.selects "SirenFair$Field" Y_Field_soundOf.1 Y_Field_soundOf.1 ∈ zWd := zin 782 (by decide +kernel) rfl
theorem lkV_SF_289 : zlkV "SirenFair" 289 Y_Field_soundOf 2 := ⟨lk_Field_soundOf, w_ml_SF_289, w_im_Field_soundOf, w_sel_Field_soundOf⟩
def Y_SF_takeTurn : zY := (⟨"SirenFair", "takeTurn", "(LSirenFair$Field;I)V"⟩, prog_1_method_30_code, 3, none, [])
theorem w_k_SF_373 : Cond.constant "SirenFair" 373 (32768) ∈ zWd := zin 931 (by decide +kernel) rfl
theorem w_k_SF_374 : Cond.constant "SirenFair" 374 (262144) ∈ zWd := zin 932 (by decide +kernel) rfl
theorem w_k_SF_375 : Cond.constant "SirenFair" 375 (131072) ∈ zWd := zin 933 (by decide +kernel) rfl
theorem d_SF_forgetRemembered_0 : decode Y_SF_forgetRemembered.2.1 0 = .ok (.aload_n 0, 1) := by decide +kernel
theorem d_SF_forgetRemembered_1 : decode Y_SF_forgetRemembered.2.1 1 = .ok (.iconst (0), 1) := by decide +kernel
theorem d_SF_forgetRemembered_2 : decode Y_SF_forgetRemembered.2.1 2 = .ok (.putfield 332, 3) := by decide +kernel
theorem d_SF_forgetRemembered_5 : decode Y_SF_forgetRemembered.2.1 5 = .ok (.aload_n 0, 1) := by decide +kernel
theorem d_SF_forgetRemembered_6 : decode Y_SF_forgetRemembered.2.1 6 = .ok (.iconst (0), 1) := by decide +kernel
theorem d_SF_forgetRemembered_7 : decode Y_SF_forgetRemembered.2.1 7 = .ok (.putfield 327, 3) := by decide +kernel
theorem d_SF_forgetRemembered_10 : decode Y_SF_forgetRemembered.2.1 10 = .ok (.return_, 1) := by decide +kernel
def f_SF_forgetRemembered (w : zW) (D : zD) (a : Nat) : Option (zD) := zput w D 0 5 a (0 : Int32) (fun D1 => zput w D1 0 6 a (0 : Int32) (fun D2 => some D2))
set_option maxHeartbeats 4000000 in
set_option maxRecDepth 100000 in
theorem c_SF_forgetRemembered (z : zT) (D : zD) (a : Nat) : zM Y_SF_forgetRemembered 1 0 0 (zqV z) (f_SF_forgetRemembered z.2 D a) [.ref a] z D := by
  refine zM_of (plainFor_of_name (by decide +kernel)) rfl (Nat.le_of_ble_eq_true rfl) (fun _ _ _ _ h => nomatch h.1) (fun K => ?_)
  unfold f_SF_forgetRemembered
  refine z_aload_n (pc := 0) d_SF_forgetRemembered_0 rfl 0 rfl ?_
  refine z_iconst (pc := 1) d_SF_forgetRemembered_1 ki_0 ?_
  refine z_putI (pc := 2) fl_SF_332 d_SF_forgetRemembered_2 (fun D1 => ?_)
  refine z_aload_n (pc := 5) d_SF_forgetRemembered_5 rfl 0 rfl ?_
  refine z_iconst (pc := 6) d_SF_forgetRemembered_6 ki_0 ?_
  refine z_putI (pc := 7) fl_SF_327 d_SF_forgetRemembered_7 (fun D2 => ?_)
  exact z_vret (pc := 10) d_SF_forgetRemembered_10 rfl
theorem d_SF_remember_0 : decode Y_SF_remember.2.1 0 = .ok (.aload_n 0, 1) := by decide +kernel
theorem d_SF_remember_1 : decode Y_SF_remember.2.1 1 = .ok (.getfield 327, 3) := by decide +kernel
theorem d_SF_remember_4 : decode Y_SF_remember.2.1 4 = .ok (.bipush (14), 2) := by decide +kernel
theorem d_SF_remember_6 : decode Y_SF_remember.2.1 6 = .ok (.if_icmp .lt (26), 3) := by decide +kernel
theorem d_SF_remember_9 : decode Y_SF_remember.2.1 9 = .ok (.aload_n 0, 1) := by decide +kernel
theorem d_SF_remember_10 : decode Y_SF_remember.2.1 10 = .ok (.aload_n 0, 1) := by decide +kernel
theorem d_SF_remember_11 : decode Y_SF_remember.2.1 11 = .ok (.getfield 332, 3) := by decide +kernel
theorem d_SF_remember_14 : decode Y_SF_remember.2.1 14 = .ok (.iconst (1), 1) := by decide +kernel
theorem d_SF_remember_15 : decode Y_SF_remember.2.1 15 = .ok (.iadd, 1) := by decide +kernel
theorem d_SF_remember_16 : decode Y_SF_remember.2.1 16 = .ok (.bipush (14), 2) := by decide +kernel
theorem d_SF_remember_18 : decode Y_SF_remember.2.1 18 = .ok (.irem, 1) := by decide +kernel
theorem d_SF_remember_19 : decode Y_SF_remember.2.1 19 = .ok (.putfield 332, 3) := by decide +kernel
theorem d_SF_remember_22 : decode Y_SF_remember.2.1 22 = .ok (.aload_n 0, 1) := by decide +kernel
theorem d_SF_remember_23 : decode Y_SF_remember.2.1 23 = .ok (.dup, 1) := by decide +kernel
theorem d_SF_remember_24 : decode Y_SF_remember.2.1 24 = .ok (.getfield 327, 3) := by decide +kernel
theorem d_SF_remember_27 : decode Y_SF_remember.2.1 27 = .ok (.iconst (1), 1) := by decide +kernel
theorem d_SF_remember_28 : decode Y_SF_remember.2.1 28 = .ok (.isub, 1) := by decide +kernel
theorem d_SF_remember_29 : decode Y_SF_remember.2.1 29 = .ok (.putfield 327, 3) := by decide +kernel
theorem d_SF_remember_32 : decode Y_SF_remember.2.1 32 = .ok (.aload_n 0, 1) := by decide +kernel
theorem d_SF_remember_33 : decode Y_SF_remember.2.1 33 = .ok (.getfield 29, 3) := by decide +kernel
theorem d_SF_remember_36 : decode Y_SF_remember.2.1 36 = .ok (.aload_n 0, 1) := by decide +kernel
theorem d_SF_remember_37 : decode Y_SF_remember.2.1 37 = .ok (.getfield 332, 3) := by decide +kernel
theorem d_SF_remember_40 : decode Y_SF_remember.2.1 40 = .ok (.aload_n 0, 1) := by decide +kernel
theorem d_SF_remember_41 : decode Y_SF_remember.2.1 41 = .ok (.getfield 327, 3) := by decide +kernel
theorem d_SF_remember_44 : decode Y_SF_remember.2.1 44 = .ok (.iadd, 1) := by decide +kernel
theorem d_SF_remember_45 : decode Y_SF_remember.2.1 45 = .ok (.bipush (14), 2) := by decide +kernel
theorem d_SF_remember_47 : decode Y_SF_remember.2.1 47 = .ok (.irem, 1) := by decide +kernel
theorem d_SF_remember_48 : decode Y_SF_remember.2.1 48 = .ok (.aaload, 1) := by decide +kernel
theorem d_SF_remember_49 : decode Y_SF_remember.2.1 49 = .ok (.aload_n 0, 1) := by decide +kernel
theorem d_SF_remember_50 : decode Y_SF_remember.2.1 50 = .ok (.getfield 19, 3) := by decide +kernel
theorem d_SF_remember_53 : decode Y_SF_remember.2.1 53 = .ok (.invokevirtual 70, 3) := by decide +kernel
theorem d_SF_remember_56 : decode Y_SF_remember.2.1 56 = .ok (.aload_n 0, 1) := by decide +kernel
theorem d_SF_remember_57 : decode Y_SF_remember.2.1 57 = .ok (.dup, 1) := by decide +kernel
theorem d_SF_remember_58 : decode Y_SF_remember.2.1 58 = .ok (.getfield 327, 3) := by decide +kernel
theorem d_SF_remember_61 : decode Y_SF_remember.2.1 61 = .ok (.iconst (1), 1) := by decide +kernel
theorem d_SF_remember_62 : decode Y_SF_remember.2.1 62 = .ok (.iadd, 1) := by decide +kernel
theorem d_SF_remember_63 : decode Y_SF_remember.2.1 63 = .ok (.putfield 327, 3) := by decide +kernel
theorem d_SF_remember_66 : decode Y_SF_remember.2.1 66 = .ok (.return_, 1) := by decide +kernel
def f_SF_remember (w : zW) (D : zD) (a : Nat) : Option (zD) := zjp (fun (D1 : zD) => zref w 0 4 a (fun p2 => zfld w D1 0 5 a (fun v3 => zfld w D1 0 6 a (fun v4 => zald4 w p2 (zirem (v3 + v4) (14 : Int32)) (fun p5 => zref w 0 1 a (fun p6 => zobj w 3 p5 (zcv (f_Field_copyFrom w D1 p5 p6) (fun D7 => zfld w D7 0 6 a (fun v8 => zput w D7 0 6 a (v8 + (1 : Int32)) (fun D9 => some D9)))))))))) (fun j32 => zfld w D 0 6 a (fun v10 => (if v10 < (14 : Int32) then j32 D else zfld w D 0 5 a (fun v11 => zput w D 0 5 a (zirem (v11 + (1 : Int32)) (14 : Int32)) (fun D12 => zfld w D12 0 6 a (fun v13 => zput w D12 0 6 a (v13 - (1 : Int32)) (fun D14 => j32 D14)))))))
set_option maxHeartbeats 4000000 in
set_option maxRecDepth 100000 in
theorem c_SF_remember (z : zT) (D : zD) (a : Nat) : zM Y_SF_remember 3 0 0 (zqV z) (f_SF_remember z.2 D a) [.ref a] z D := by
  refine zM_of (plainFor_of_name (by decide +kernel)) rfl (Nat.le_of_ble_eq_true rfl) (fun _ _ _ _ h => nomatch h.1) (fun K => ?_)
  unfold f_SF_remember
  refine z_jp (fun j32 : zD → Option (zD) => ∀ (D1 : zD), zGO K Y_SF_remember 3 0 0 (zqV z) (j32  D1) 0 0 z D1 32 [(0, .ref a)] []) (fun  D1 => ?_) (fun j32 h32 => ?_)
  · refine z_aload_n (pc := 32) d_SF_remember_32 rfl 0 rfl ?_
    refine z_getR (pc := 33) fl_SF_29 d_SF_remember_33 (fun p2 => ?_)
    refine z_aload_n (pc := 36) d_SF_remember_36 rfl 0 rfl ?_
    refine z_getI (pc := 37) fl_SF_332 d_SF_remember_37 (fun v3 => ?_)
    refine z_aload_n (pc := 40) d_SF_remember_40 rfl 0 rfl ?_
    refine z_getI (pc := 41) fl_SF_327 d_SF_remember_41 (fun v4 => ?_)
    refine z_iadd (pc := 44) d_SF_remember_44 ?_
    refine z_bipush (pc := 45) d_SF_remember_45 kb_14 ?_
    refine z_iremK (pc := 47) d_SF_remember_47 (by decide) ?_
    refine z_aaload (pc := 48) d_SF_remember_48 (fun p5 => ?_)
    refine z_aload_n (pc := 49) d_SF_remember_49 rfl 0 rfl ?_
    refine z_getR (pc := 50) fl_SF_19 d_SF_remember_50 (fun p6 => ?_)
    refine z_callVv (pc := 53) [.ref p6] lkV_SF_70 rfl (c_Field_copyFrom z D1 p5 p6) (by decide) rfl rfl (Nat.le_of_ble_eq_true rfl) d_SF_remember_53 (fun D7 => ?_)
    refine z_aload_n (pc := 56) d_SF_remember_56 rfl 0 rfl ?_
    refine z_dup (pc := 57) d_SF_remember_57 rfl ?_
    refine z_getI (pc := 58) fl_SF_327 d_SF_remember_58 (fun v8 => ?_)
    refine z_iconst (pc := 61) d_SF_remember_61 ki_1 ?_
    refine z_iadd (pc := 62) d_SF_remember_62 ?_
    refine z_putI (pc := 63) fl_SF_327 d_SF_remember_63 (fun D9 => ?_)
    exact z_vret (pc := 66) d_SF_remember_66 rfl
  · refine z_aload_n (pc := 0) d_SF_remember_0 rfl 0 rfl ?_
    refine z_getI (pc := 1) fl_SF_327 d_SF_remember_1 (fun v10 => ?_)
    refine z_bipush (pc := 4) d_SF_remember_4 kb_14 ?_
    refine z_icmp_lt (pc := 6) (tgt := 32) d_SF_remember_6 (by decide) ?_ ?_
    · exact z_sub [0] rfl (h32 D)
    · refine z_aload_n (pc := 9) d_SF_remember_9 rfl 0 rfl ?_
      refine z_aload_n (pc := 10) d_SF_remember_10 rfl 0 rfl ?_
      refine z_getI (pc := 11) fl_SF_332 d_SF_remember_11 (fun v11 => ?_)
      refine z_iconst (pc := 14) d_SF_remember_14 ki_1 ?_
      refine z_iadd (pc := 15) d_SF_remember_15 ?_
      refine z_bipush (pc := 16) d_SF_remember_16 kb_14 ?_
      refine z_iremK (pc := 18) d_SF_remember_18 (by decide) ?_
      refine z_putI (pc := 19) fl_SF_332 d_SF_remember_19 (fun D12 => ?_)
      refine z_aload_n (pc := 22) d_SF_remember_22 rfl 0 rfl ?_
      refine z_dup (pc := 23) d_SF_remember_23 rfl ?_
      refine z_getI (pc := 24) fl_SF_327 d_SF_remember_24 (fun v13 => ?_)
      refine z_iconst (pc := 27) d_SF_remember_27 ki_1 ?_
      refine z_isub (pc := 28) d_SF_remember_28 ?_
      refine z_putI (pc := 29) fl_SF_327 d_SF_remember_29 (fun D14 => ?_)
      exact z_sub [0] rfl (h32 D14)
theorem d_SF_quietIn_0 : decode Y_SF_quietIn.2.1 0 = .ok (.aload_n 0, 1) := by decide +kernel
theorem d_SF_quietIn_1 : decode Y_SF_quietIn.2.1 1 = .ok (.getfield 26, 3) := by decide +kernel
theorem d_SF_quietIn_4 : decode Y_SF_quietIn.2.1 4 = .ok (.aload_n 0, 1) := by decide +kernel
theorem d_SF_quietIn_5 : decode Y_SF_quietIn.2.1 5 = .ok (.getfield 19, 3) := by decide +kernel
theorem d_SF_quietIn_8 : decode Y_SF_quietIn.2.1 8 = .ok (.invokevirtual 70, 3) := by decide +kernel
theorem d_SF_quietIn_11 : decode Y_SF_quietIn.2.1 11 = .ok (.aload_n 0, 1) := by decide +kernel
theorem d_SF_quietIn_12 : decode Y_SF_quietIn.2.1 12 = .ok (.getfield 26, 3) := by decide +kernel
theorem d_SF_quietIn_15 : decode Y_SF_quietIn.2.1 15 = .ok (.getfield 98, 3) := by decide +kernel
theorem d_SF_quietIn_18 : decode Y_SF_quietIn.2.1 18 = .ok (.invokevirtual 345, 3) := by decide +kernel
theorem d_SF_quietIn_21 : decode Y_SF_quietIn.2.1 21 = .ok (.iconst (0), 1) := by decide +kernel
theorem d_SF_quietIn_22 : decode Y_SF_quietIn.2.1 22 = .ok (.istore_n 1, 1) := by decide +kernel
theorem d_SF_quietIn_23 : decode Y_SF_quietIn.2.1 23 = .ok (.iload_n 1, 1) := by decide +kernel
theorem d_SF_quietIn_24 : decode Y_SF_quietIn.2.1 24 = .ok (.bipush (99), 2) := by decide +kernel
theorem d_SF_quietIn_26 : decode Y_SF_quietIn.2.1 26 = .ok (.if_icmp .ge (29), 3) := by decide +kernel
theorem d_SF_quietIn_29 : decode Y_SF_quietIn.2.1 29 = .ok (.aload_n 0, 1) := by decide +kernel
theorem d_SF_quietIn_30 : decode Y_SF_quietIn.2.1 30 = .ok (.getfield 26, 3) := by decide +kernel
theorem d_SF_quietIn_33 : decode Y_SF_quietIn.2.1 33 = .ok (.getfield 144, 3) := by decide +kernel
theorem d_SF_quietIn_36 : decode Y_SF_quietIn.2.1 36 = .ok (.getfield 148, 3) := by decide +kernel
theorem d_SF_quietIn_39 : decode Y_SF_quietIn.2.1 39 = .ok (.ifCond .le (16), 3) := by decide +kernel
theorem d_SF_quietIn_42 : decode Y_SF_quietIn.2.1 42 = .ok (.aload_n 0, 1) := by decide +kernel
theorem d_SF_quietIn_43 : decode Y_SF_quietIn.2.1 43 = .ok (.getfield 26, 3) := by decide +kernel
theorem d_SF_quietIn_46 : decode Y_SF_quietIn.2.1 46 = .ok (.invokevirtual 343, 3) := by decide +kernel
theorem d_SF_quietIn_49 : decode Y_SF_quietIn.2.1 49 = .ok (.iinc 1 (1), 3) := by decide +kernel
theorem d_SF_quietIn_52 : decode Y_SF_quietIn.2.1 52 = .ok (.goto (-29), 3) := by decide +kernel
theorem d_SF_quietIn_55 : decode Y_SF_quietIn.2.1 55 = .ok (.iload_n 1, 1) := by decide +kernel
theorem d_SF_quietIn_56 : decode Y_SF_quietIn.2.1 56 = .ok (.ireturn, 1) := by decide +kernel
def f_SF_quietIn (w : zW) (D : zD) (a : Nat) : Option (Int32 × zD) := zjp (zlp (fun (_ : Int32) (_ : zD) => none) (fun (j23 : Int32 → zD → Option (Int32 × zD)) (x1 : Int32) (D1 : zD) => zjp (fun (x1 : Int32) (D2 : zD) => some (x1, D2)) (fun j55 => (if (99 : Int32) ≤ x1 then j55 x1 D1 else zref w 0 3 a (fun p3 => zref w 3 3 p3 (fun p4 => zfld w D1 5 7 p4 (fun v5 => (if v5 ≤ 0 then j55 x1 D1 else zref w 0 3 a (fun p6 => zobj w 3 p6 (zcv (f_Field_tick w D1 p6 ) (fun D7 => zlet (x1 + (1 : Int32)) (fun v8 => j23 v8 D7))))))))))) zfuel) (fun j23 => zref w 0 3 a (fun p9 => zref w 0 1 a (fun p10 => zobj w 3 p9 (zcv (f_Field_copyFrom w D p9 p10) (fun D11 => zref w 0 3 a (fun p12 => zref w 3 0 p12 (fun p13 => zobj w 6 p13 (zcv (f_Sirens_turnAllOff w D11 p13 ) (fun D14 => j23 (0 : Int32) D14)))))))))
set_option maxHeartbeats 4000000 in
set_option maxRecDepth 100000 in
theorem c_SF_quietIn (z : zT) (D : zD) (a : Nat) : zM Y_SF_quietIn 6 0 0 (zqI z) (f_SF_quietIn z.2 D a) [.ref a] z D := by
  refine zM_of (plainFor_of_name (by decide +kernel)) rfl (Nat.le_of_ble_eq_true rfl) (fun _ _ _ _ h => nomatch h.1) (fun K => ?_)
  unfold f_SF_quietIn
  refine z_jp (fun j23 : Int32 → zD → Option (Int32 × zD) => ∀ (x1 : Int32) (D1 : zD), zGO K Y_SF_quietIn 6 0 0 (zqI z) (j23 x1 D1) 0 0 z D1 23 [(0, .ref a), (1, .int x1)] []) (z_lp (fun j23 : Int32 → zD → Option (Int32 × zD) => ∀ (x1 : Int32) (D1 : zD), zGO K Y_SF_quietIn 6 0 0 (zqI z) (j23 x1 D1) 0 0 z D1 23 [(0, .ref a), (1, .int x1)] []) (fun _ _ => z_none) (fun j23 h23 x1 D1 => ?_) zfuel) (fun j23 h23 => ?_)
  · refine z_jp (fun j55 : Int32 → zD → Option (Int32 × zD) => ∀ (x1 : Int32) (D2 : zD), zGO K Y_SF_quietIn 6 0 0 (zqI z) (j55 x1 D2) 0 0 z D2 55 [(1, .int x1)] []) (fun x1 D2 => ?_) (fun j55 h55 => ?_)
    · refine z_iload_n (pc := 55) d_SF_quietIn_55 rfl 0 rfl ?_
      exact z_iret (pc := 56) d_SF_quietIn_56 rfl
    · refine z_iload_n (pc := 23) d_SF_quietIn_23 rfl 1 rfl ?_
      refine z_bipush (pc := 24) d_SF_quietIn_24 kb_99 ?_
      refine z_icmp_ge (pc := 26) (tgt := 55) d_SF_quietIn_26 (by decide) ?_ ?_
      · exact z_sub [1] rfl (h55 x1 D1)
      · refine z_aload_n (pc := 29) d_SF_quietIn_29 rfl 0 rfl ?_
        refine z_getR (pc := 30) fl_SF_26 d_SF_quietIn_30 (fun p3 => ?_)
        refine z_getR (pc := 33) fl_SF_144 d_SF_quietIn_33 (fun p4 => ?_)
        refine z_getI (pc := 36) fl_SF_148 d_SF_quietIn_36 (fun v5 => ?_)
        refine z_if_le (pc := 39) (tgt := 55) d_SF_quietIn_39 (by decide) ?_ ?_
        · exact z_sub [1] rfl (h55 x1 D1)
        · refine z_aload_n (pc := 42) d_SF_quietIn_42 rfl 0 rfl ?_
          refine z_getR (pc := 43) fl_SF_26 d_SF_quietIn_43 (fun p6 => ?_)
          refine z_callVv (pc := 46) [] lkV_SF_343 rfl (c_Field_tick z D1 p6 ) (by decide) rfl rfl (Nat.le_of_ble_eq_true rfl) d_SF_quietIn_46 (fun D7 => ?_)
          refine z_iincL (pc := 49) d_SF_quietIn_49 ki_1 1 rfl (by decide) (fun v8 => z_lvc (lv2 := [(1, .int v8), (0, .ref a)]) rfl ?_)
          refine z_goto (pc := 52) (tgt := 23) d_SF_quietIn_52 (by decide) ?_
          exact z_sub [1, 0] rfl (h23 v8 D7)
  · refine z_aload_n (pc := 0) d_SF_quietIn_0 rfl 0 rfl ?_
    refine z_getR (pc := 1) fl_SF_26 d_SF_quietIn_1 (fun p9 => ?_)
    refine z_aload_n (pc := 4) d_SF_quietIn_4 rfl 0 rfl ?_
    refine z_getR (pc := 5) fl_SF_19 d_SF_quietIn_5 (fun p10 => ?_)
    refine z_callVv (pc := 8) [.ref p10] lkV_SF_70 rfl (c_Field_copyFrom z D p9 p10) (by decide) rfl rfl (Nat.le_of_ble_eq_true rfl) d_SF_quietIn_8 (fun D11 => ?_)
    refine z_aload_n (pc := 11) d_SF_quietIn_11 rfl 0 rfl ?_
    refine z_getR (pc := 12) fl_SF_26 d_SF_quietIn_12 (fun p12 => ?_)
    refine z_getR (pc := 15) fl_SF_98 d_SF_quietIn_15 (fun p13 => ?_)
    refine z_callVv (pc := 18) [] lkV_SF_345 rfl (c_Sirens_turnAllOff z D11 p13 ) (by decide) rfl rfl (Nat.le_of_ble_eq_true rfl) d_SF_quietIn_18 (fun D14 => ?_)
    refine z_iconst (pc := 21) d_SF_quietIn_21 ki_0 ?_
    refine z_istore_n (pc := 22) d_SF_quietIn_22 rfl (by decide) (lv' := [(1, .int (0 : Int32)), (0, .ref a)]) rfl ?_
    exact z_sub [1, 0] rfl (h23 (0 : Int32) D14)
theorem d_SF_obeys_0 : decode Y_SF_obeys.2.1 0 = .ok (.aload_n 2, 1) := by decide +kernel
theorem d_SF_obeys_1 : decode Y_SF_obeys.2.1 1 = .ok (.arraylength, 1) := by decide +kernel
theorem d_SF_obeys_2 : decode Y_SF_obeys.2.1 2 = .ok (.iconst (5), 1) := by decide +kernel
theorem d_SF_obeys_3 : decode Y_SF_obeys.2.1 3 = .ok (.if_icmp .ge (5), 3) := by decide +kernel
theorem d_SF_obeys_6 : decode Y_SF_obeys.2.1 6 = .ok (.iconst (0), 1) := by decide +kernel
theorem d_SF_obeys_7 : decode Y_SF_obeys.2.1 7 = .ok (.ireturn, 1) := by decide +kernel
theorem d_SF_obeys_8 : decode Y_SF_obeys.2.1 8 = .ok (.iload_n 1, 1) := by decide +kernel
theorem d_SF_obeys_9 : decode Y_SF_obeys.2.1 9 = .ok (.lookupswitch (216) #[(99, (198)), (104, (99)), (111, (174)), (115, (59)), (116, (207)), (119, (138))], 59) := by decide +kernel
theorem d_SF_obeys_68 : decode Y_SF_obeys.2.1 68 = .ok (.aload_n 0, 1) := by decide +kernel
theorem d_SF_obeys_69 : decode Y_SF_obeys.2.1 69 = .ok (.getfield 98, 3) := by decide +kernel
theorem d_SF_obeys_72 : decode Y_SF_obeys.2.1 72 = .ok (.aload_n 2, 1) := by decide +kernel
theorem d_SF_obeys_73 : decode Y_SF_obeys.2.1 73 = .ok (.iconst (0), 1) := by decide +kernel
theorem d_SF_obeys_74 : decode Y_SF_obeys.2.1 74 = .ok (.iaload, 1) := by decide +kernel
theorem d_SF_obeys_75 : decode Y_SF_obeys.2.1 75 = .ok (.bipush (40), 2) := by decide +kernel
theorem d_SF_obeys_77 : decode Y_SF_obeys.2.1 77 = .ok (.isub, 1) := by decide +kernel
theorem d_SF_obeys_78 : decode Y_SF_obeys.2.1 78 = .ok (.aload_n 2, 1) := by decide +kernel
theorem d_SF_obeys_79 : decode Y_SF_obeys.2.1 79 = .ok (.iconst (1), 1) := by decide +kernel
theorem d_SF_obeys_80 : decode Y_SF_obeys.2.1 80 = .ok (.iaload, 1) := by decide +kernel
theorem d_SF_obeys_81 : decode Y_SF_obeys.2.1 81 = .ok (.bipush (40), 2) := by decide +kernel
theorem d_SF_obeys_83 : decode Y_SF_obeys.2.1 83 = .ok (.isub, 1) := by decide +kernel
theorem d_SF_obeys_84 : decode Y_SF_obeys.2.1 84 = .ok (.aload_n 2, 1) := by decide +kernel
theorem d_SF_obeys_85 : decode Y_SF_obeys.2.1 85 = .ok (.iconst (2), 1) := by decide +kernel
theorem d_SF_obeys_86 : decode Y_SF_obeys.2.1 86 = .ok (.iaload, 1) := by decide +kernel
theorem d_SF_obeys_87 : decode Y_SF_obeys.2.1 87 = .ok (.aload_n 2, 1) := by decide +kernel
theorem d_SF_obeys_88 : decode Y_SF_obeys.2.1 88 = .ok (.iconst (3), 1) := by decide +kernel
theorem d_SF_obeys_89 : decode Y_SF_obeys.2.1 89 = .ok (.iaload, 1) := by decide +kernel
theorem d_SF_obeys_90 : decode Y_SF_obeys.2.1 90 = .ok (.iconst (3), 1) := by decide +kernel
theorem d_SF_obeys_91 : decode Y_SF_obeys.2.1 91 = .ok (.isub, 1) := by decide +kernel
theorem d_SF_obeys_92 : decode Y_SF_obeys.2.1 92 = .ok (.aload_n 2, 1) := by decide +kernel
theorem d_SF_obeys_93 : decode Y_SF_obeys.2.1 93 = .ok (.iconst (4), 1) := by decide +kernel
theorem d_SF_obeys_94 : decode Y_SF_obeys.2.1 94 = .ok (.iaload, 1) := by decide +kernel
theorem d_SF_obeys_95 : decode Y_SF_obeys.2.1 95 = .ok (.invokevirtual 102, 3) := by decide +kernel
theorem d_SF_obeys_98 : decode Y_SF_obeys.2.1 98 = .ok (.iconst (-1), 1) := by decide +kernel
theorem d_SF_obeys_99 : decode Y_SF_obeys.2.1 99 = .ok (.if_icmp .eq (7), 3) := by decide +kernel
theorem d_SF_obeys_102 : decode Y_SF_obeys.2.1 102 = .ok (.iconst (1), 1) := by decide +kernel
theorem d_SF_obeys_103 : decode Y_SF_obeys.2.1 103 = .ok (.goto (4), 3) := by decide +kernel
theorem d_SF_obeys_106 : decode Y_SF_obeys.2.1 106 = .ok (.iconst (0), 1) := by decide +kernel
theorem d_SF_obeys_107 : decode Y_SF_obeys.2.1 107 = .ok (.ireturn, 1) := by decide +kernel
theorem d_SF_obeys_108 : decode Y_SF_obeys.2.1 108 = .ok (.aload_n 0, 1) := by decide +kernel
theorem d_SF_obeys_109 : decode Y_SF_obeys.2.1 109 = .ok (.getfield 107, 3) := by decide +kernel
theorem d_SF_obeys_112 : decode Y_SF_obeys.2.1 112 = .ok (.aload_n 2, 1) := by decide +kernel
theorem d_SF_obeys_113 : decode Y_SF_obeys.2.1 113 = .ok (.iconst (0), 1) := by decide +kernel
theorem d_SF_obeys_114 : decode Y_SF_obeys.2.1 114 = .ok (.iaload, 1) := by decide +kernel
theorem d_SF_obeys_115 : decode Y_SF_obeys.2.1 115 = .ok (.bipush (40), 2) := by decide +kernel
theorem d_SF_obeys_117 : decode Y_SF_obeys.2.1 117 = .ok (.isub, 1) := by decide +kernel
theorem d_SF_obeys_118 : decode Y_SF_obeys.2.1 118 = .ok (.aload_n 2, 1) := by decide +kernel
theorem d_SF_obeys_119 : decode Y_SF_obeys.2.1 119 = .ok (.iconst (1), 1) := by decide +kernel
theorem d_SF_obeys_120 : decode Y_SF_obeys.2.1 120 = .ok (.iaload, 1) := by decide +kernel
theorem d_SF_obeys_121 : decode Y_SF_obeys.2.1 121 = .ok (.bipush (40), 2) := by decide +kernel
theorem d_SF_obeys_123 : decode Y_SF_obeys.2.1 123 = .ok (.isub, 1) := by decide +kernel
theorem d_SF_obeys_124 : decode Y_SF_obeys.2.1 124 = .ok (.aload_n 2, 1) := by decide +kernel
theorem d_SF_obeys_125 : decode Y_SF_obeys.2.1 125 = .ok (.iconst (2), 1) := by decide +kernel
theorem d_SF_obeys_126 : decode Y_SF_obeys.2.1 126 = .ok (.iaload, 1) := by decide +kernel
theorem d_SF_obeys_127 : decode Y_SF_obeys.2.1 127 = .ok (.iconst (2), 1) := by decide +kernel
theorem d_SF_obeys_128 : decode Y_SF_obeys.2.1 128 = .ok (.isub, 1) := by decide +kernel
theorem d_SF_obeys_129 : decode Y_SF_obeys.2.1 129 = .ok (.aload_n 2, 1) := by decide +kernel
theorem d_SF_obeys_130 : decode Y_SF_obeys.2.1 130 = .ok (.iconst (3), 1) := by decide +kernel
theorem d_SF_obeys_131 : decode Y_SF_obeys.2.1 131 = .ok (.iaload, 1) := by decide +kernel
theorem d_SF_obeys_132 : decode Y_SF_obeys.2.1 132 = .ok (.iconst (2), 1) := by decide +kernel
theorem d_SF_obeys_133 : decode Y_SF_obeys.2.1 133 = .ok (.isub, 1) := by decide +kernel
theorem d_SF_obeys_134 : decode Y_SF_obeys.2.1 134 = .ok (.invokevirtual 111, 3) := by decide +kernel
theorem d_SF_obeys_137 : decode Y_SF_obeys.2.1 137 = .ok (.iconst (-1), 1) := by decide +kernel
theorem d_SF_obeys_138 : decode Y_SF_obeys.2.1 138 = .ok (.if_icmp .eq (7), 3) := by decide +kernel
theorem d_SF_obeys_141 : decode Y_SF_obeys.2.1 141 = .ok (.iconst (1), 1) := by decide +kernel
theorem d_SF_obeys_142 : decode Y_SF_obeys.2.1 142 = .ok (.goto (4), 3) := by decide +kernel
theorem d_SF_obeys_145 : decode Y_SF_obeys.2.1 145 = .ok (.iconst (0), 1) := by decide +kernel
theorem d_SF_obeys_146 : decode Y_SF_obeys.2.1 146 = .ok (.ireturn, 1) := by decide +kernel
theorem d_SF_obeys_147 : decode Y_SF_obeys.2.1 147 = .ok (.aload_n 0, 1) := by decide +kernel
theorem d_SF_obeys_148 : decode Y_SF_obeys.2.1 148 = .ok (.getfield 116, 3) := by decide +kernel
theorem d_SF_obeys_151 : decode Y_SF_obeys.2.1 151 = .ok (.aload_n 2, 1) := by decide +kernel
theorem d_SF_obeys_152 : decode Y_SF_obeys.2.1 152 = .ok (.iconst (0), 1) := by decide +kernel
theorem d_SF_obeys_153 : decode Y_SF_obeys.2.1 153 = .ok (.iaload, 1) := by decide +kernel
theorem d_SF_obeys_154 : decode Y_SF_obeys.2.1 154 = .ok (.bipush (117), 2) := by decide +kernel
theorem d_SF_obeys_156 : decode Y_SF_obeys.2.1 156 = .ok (.if_icmp .ne (7), 3) := by decide +kernel
theorem d_SF_obeys_159 : decode Y_SF_obeys.2.1 159 = .ok (.iconst (1), 1) := by decide +kernel
theorem d_SF_obeys_160 : decode Y_SF_obeys.2.1 160 = .ok (.goto (4), 3) := by decide +kernel
theorem d_SF_obeys_163 : decode Y_SF_obeys.2.1 163 = .ok (.iconst (0), 1) := by decide +kernel
theorem d_SF_obeys_164 : decode Y_SF_obeys.2.1 164 = .ok (.aload_n 2, 1) := by decide +kernel
theorem d_SF_obeys_165 : decode Y_SF_obeys.2.1 165 = .ok (.iconst (1), 1) := by decide +kernel
theorem d_SF_obeys_166 : decode Y_SF_obeys.2.1 166 = .ok (.iaload, 1) := by decide +kernel
theorem d_SF_obeys_167 : decode Y_SF_obeys.2.1 167 = .ok (.bipush (40), 2) := by decide +kernel
theorem d_SF_obeys_169 : decode Y_SF_obeys.2.1 169 = .ok (.isub, 1) := by decide +kernel
theorem d_SF_obeys_170 : decode Y_SF_obeys.2.1 170 = .ok (.invokevirtual 120, 3) := by decide +kernel
theorem d_SF_obeys_173 : decode Y_SF_obeys.2.1 173 = .ok (.iconst (-1), 1) := by decide +kernel
theorem d_SF_obeys_174 : decode Y_SF_obeys.2.1 174 = .ok (.if_icmp .eq (7), 3) := by decide +kernel
theorem d_SF_obeys_177 : decode Y_SF_obeys.2.1 177 = .ok (.iconst (1), 1) := by decide +kernel
theorem d_SF_obeys_178 : decode Y_SF_obeys.2.1 178 = .ok (.goto (4), 3) := by decide +kernel
theorem d_SF_obeys_181 : decode Y_SF_obeys.2.1 181 = .ok (.iconst (0), 1) := by decide +kernel
theorem d_SF_obeys_182 : decode Y_SF_obeys.2.1 182 = .ok (.ireturn, 1) := by decide +kernel
theorem d_SF_obeys_183 : decode Y_SF_obeys.2.1 183 = .ok (.aload_n 0, 1) := by decide +kernel
theorem d_SF_obeys_184 : decode Y_SF_obeys.2.1 184 = .ok (.getfield 98, 3) := by decide +kernel
theorem d_SF_obeys_187 : decode Y_SF_obeys.2.1 187 = .ok (.aload_n 2, 1) := by decide +kernel
theorem d_SF_obeys_188 : decode Y_SF_obeys.2.1 188 = .ok (.iconst (0), 1) := by decide +kernel
theorem d_SF_obeys_189 : decode Y_SF_obeys.2.1 189 = .ok (.iaload, 1) := by decide +kernel
theorem d_SF_obeys_190 : decode Y_SF_obeys.2.1 190 = .ok (.aload_n 2, 1) := by decide +kernel
theorem d_SF_obeys_191 : decode Y_SF_obeys.2.1 191 = .ok (.iconst (1), 1) := by decide +kernel
theorem d_SF_obeys_192 : decode Y_SF_obeys.2.1 192 = .ok (.iaload, 1) := by decide +kernel
theorem d_SF_obeys_193 : decode Y_SF_obeys.2.1 193 = .ok (.bipush (43), 2) := by decide +kernel
theorem d_SF_obeys_195 : decode Y_SF_obeys.2.1 195 = .ok (.if_icmp .ne (7), 3) := by decide +kernel
theorem d_SF_obeys_198 : decode Y_SF_obeys.2.1 198 = .ok (.iconst (1), 1) := by decide +kernel
theorem d_SF_obeys_199 : decode Y_SF_obeys.2.1 199 = .ok (.goto (4), 3) := by decide +kernel
theorem d_SF_obeys_202 : decode Y_SF_obeys.2.1 202 = .ok (.iconst (0), 1) := by decide +kernel
theorem d_SF_obeys_203 : decode Y_SF_obeys.2.1 203 = .ok (.invokevirtual 125, 3) := by decide +kernel
theorem d_SF_obeys_206 : decode Y_SF_obeys.2.1 206 = .ok (.ireturn, 1) := by decide +kernel
theorem d_SF_obeys_207 : decode Y_SF_obeys.2.1 207 = .ok (.aload_n 0, 1) := by decide +kernel
theorem d_SF_obeys_208 : decode Y_SF_obeys.2.1 208 = .ok (.aload_n 2, 1) := by decide +kernel
theorem d_SF_obeys_209 : decode Y_SF_obeys.2.1 209 = .ok (.iconst (0), 1) := by decide +kernel
theorem d_SF_obeys_210 : decode Y_SF_obeys.2.1 210 = .ok (.iaload, 1) := by decide +kernel
theorem d_SF_obeys_211 : decode Y_SF_obeys.2.1 211 = .ok (.putfield 129, 3) := by decide +kernel
theorem d_SF_obeys_214 : decode Y_SF_obeys.2.1 214 = .ok (.iconst (1), 1) := by decide +kernel
theorem d_SF_obeys_215 : decode Y_SF_obeys.2.1 215 = .ok (.ireturn, 1) := by decide +kernel
theorem d_SF_obeys_216 : decode Y_SF_obeys.2.1 216 = .ok (.aload_n 0, 1) := by decide +kernel
theorem d_SF_obeys_217 : decode Y_SF_obeys.2.1 217 = .ok (.aload_n 2, 1) := by decide +kernel
theorem d_SF_obeys_218 : decode Y_SF_obeys.2.1 218 = .ok (.iconst (0), 1) := by decide +kernel
theorem d_SF_obeys_219 : decode Y_SF_obeys.2.1 219 = .ok (.iaload, 1) := by decide +kernel
theorem d_SF_obeys_220 : decode Y_SF_obeys.2.1 220 = .ok (.invokevirtual 132, 3) := by decide +kernel
theorem d_SF_obeys_223 : decode Y_SF_obeys.2.1 223 = .ok (.iconst (1), 1) := by decide +kernel
theorem d_SF_obeys_224 : decode Y_SF_obeys.2.1 224 = .ok (.ireturn, 1) := by decide +kernel
theorem d_SF_obeys_225 : decode Y_SF_obeys.2.1 225 = .ok (.iconst (0), 1) := by decide +kernel
theorem d_SF_obeys_226 : decode Y_SF_obeys.2.1 226 = .ok (.ireturn, 1) := by decide +kernel
def f_SF_obeys (w : zW) (D : zD) (r0 : Nat) (x1 : Int32) (r2 : Nat) : Option (Int32 × zD) := zlen w 0 r2 (fun v1 => (if (5 : Int32) ≤ v1 then (if x1 = (99 : Int32) then zald w D 0 r2 (0 : Int32) (fun v2 => zput w D 3 7 r0 v2 (fun D3 => some ((1 : Int32), D3))) else (if x1 = (104 : Int32) then zjp (fun (s0 : Int32) (D4 : zD) => zchk (s0 = 0 ∨ s0 = 1) (some (s0, D4))) (fun j146 => zref w 3 1 r0 (fun p5 => zald w D 0 r2 (0 : Int32) (fun v6 => zald w D 0 r2 (1 : Int32) (fun v7 => zald w D 0 r2 (2 : Int32) (fun v8 => zald w D 0 r2 (3 : Int32) (fun v9 => zobj w 4 p5 (zci (f_Hearers_add w D p5 (v6 - (40 : Int32)) (v7 - (40 : Int32)) (v8 - (2 : Int32)) (v9 - (2 : Int32))) (fun v10 D11 => (if v10 = (-1 : Int32) then j146 (0 : Int32) D11 else j146 (1 : Int32) D11))))))))) else (if x1 = (111 : Int32) then zjp (fun (s0 : Nat) (s1 : Int32) (s2 : Int32) (D12 : zD) => zobj w 6 s0 (zci (f_Sirens_turnTo w D12 s0 s1 s2) (fun v13 D14 => zchk (v13 = 0 ∨ v13 = 1) (some (v13, D14))))) (fun j203 => zref w 3 0 r0 (fun p15 => zald w D 0 r2 (0 : Int32) (fun v16 => zald w D 0 r2 (1 : Int32) (fun v17 => (if v17 = (43 : Int32) then j203 p15 v16 (1 : Int32) D else j203 p15 v16 (0 : Int32) D))))) else (if x1 = (115 : Int32) then zjp (fun (s0 : Int32) (D18 : zD) => zchk (s0 = 0 ∨ s0 = 1) (some (s0, D18))) (fun j107 => zref w 3 0 r0 (fun p19 => zald w D 0 r2 (0 : Int32) (fun v20 => zald w D 0 r2 (1 : Int32) (fun v21 => zald w D 0 r2 (2 : Int32) (fun v22 => zald w D 0 r2 (3 : Int32) (fun v23 => zald w D 0 r2 (4 : Int32) (fun v24 => zobj w 6 p19 (zci (f_Sirens_add w D p19 (v20 - (40 : Int32)) (v21 - (40 : Int32)) v22 (v23 - (3 : Int32)) v24) (fun v25 D26 => (if v25 = (-1 : Int32) then j107 (0 : Int32) D26 else j107 (1 : Int32) D26)))))))))) else (if x1 = (116 : Int32) then zald w D 0 r2 (0 : Int32) (fun v27 => zobj w 3 r0 (zcv (f_Field_pass w D r0 v27) (fun D28 => some ((1 : Int32), D28)))) else (if x1 = (119 : Int32) then zjp (fun (s0 : Nat) (s1 : Int32) (D29 : zD) => zjp (fun (s0 : Int32) (D30 : zD) => zchk (s0 = 0 ∨ s0 = 1) (some (s0, D30))) (fun j182 => zald w D29 0 r2 (1 : Int32) (fun v31 => zobj w 7 s0 (zci (f_Walls_add w D29 s0 s1 (v31 - (40 : Int32))) (fun v32 D33 => (if v32 = (-1 : Int32) then j182 (0 : Int32) D33 else j182 (1 : Int32) D33)))))) (fun j164 => zref w 3 2 r0 (fun p34 => zald w D 0 r2 (0 : Int32) (fun v35 => (if v35 = (117 : Int32) then j164 p34 (1 : Int32) D else j164 p34 (0 : Int32) D)))) else some ((0 : Int32), D))))))) else some ((0 : Int32), D)))
set_option maxHeartbeats 4000000 in
set_option maxRecDepth 100000 in
theorem c_SF_obeys (z : zT) (D : zD) (r0 : Nat) (x1 : Int32) (r2 : Nat) : zM Y_SF_obeys 7 0 0 (zqI z) (f_SF_obeys z.2 D r0 x1 r2) [.ref r0, .int x1, .ref r2] z D := by
  refine zM_of (plainFor_of_name (by decide +kernel)) rfl (Nat.le_of_ble_eq_true rfl) (fun _ _ _ _ h => nomatch h.1) (fun K => ?_)
  unfold f_SF_obeys
  refine z_aload_n (pc := 0) d_SF_obeys_0 rfl 2 rfl ?_
  refine z_alen (pc := 1) d_SF_obeys_1 (fun v1 => ?_)
  refine z_iconst (pc := 2) d_SF_obeys_2 ki_5 ?_
  refine z_icmp_ge (pc := 3) (tgt := 8) d_SF_obeys_3 (by decide) ?_ ?_
  · refine z_iload_n (pc := 8) d_SF_obeys_8 rfl 1 rfl ?_
    refine z_case (fun e99 => ?_) (fun e99 => ?_)
    · refine z_lookup (pc := 9) (tgt := 207) d_SF_obeys_9 rfl (by rw [e99]) (by decide) ?_
      refine z_aload_n (pc := 207) d_SF_obeys_207 rfl 0 rfl ?_
      refine z_aload_n (pc := 208) d_SF_obeys_208 rfl 2 rfl ?_
      refine z_iconst (pc := 209) d_SF_obeys_209 ki_0 ?_
      refine z_iaload (pc := 210) d_SF_obeys_210 (fun v2 => ?_)
      refine z_putI (pc := 211) fl_SF_129 d_SF_obeys_211 (fun D3 => ?_)
      refine z_iconst (pc := 214) d_SF_obeys_214 ki_1 ?_
      exact z_zretK (pc := 215) d_SF_obeys_215 rfl (by decide)
    · refine z_case (fun e104 => ?_) (fun e104 => ?_)
      · refine z_lookup (pc := 9) (tgt := 108) d_SF_obeys_9 rfl (by rw [e104]) (by decide) ?_
        refine z_jp (fun j146 : Int32 → zD → Option (Int32 × zD) => ∀ (s0 : Int32) (D4 : zD), zGO K Y_SF_obeys 7 0 0 (zqI z) (j146 s0 D4) 0 0 z D4 146 [] [.int s0]) (fun s0 D4 => ?_) (fun j146 h146 => ?_)
        · exact z_zret (pc := 146) d_SF_obeys_146 rfl
        · refine z_aload_n (pc := 108) d_SF_obeys_108 rfl 0 rfl ?_
          refine z_getR (pc := 109) fl_SF_107 d_SF_obeys_109 (fun p5 => ?_)
          refine z_aload_n (pc := 112) d_SF_obeys_112 rfl 2 rfl ?_
          refine z_iconst (pc := 113) d_SF_obeys_113 ki_0 ?_
          refine z_iaload (pc := 114) d_SF_obeys_114 (fun v6 => ?_)
          refine z_bipush (pc := 115) d_SF_obeys_115 kb_40 ?_
          refine z_isub (pc := 117) d_SF_obeys_117 ?_
          refine z_aload_n (pc := 118) d_SF_obeys_118 rfl 2 rfl ?_
          refine z_iconst (pc := 119) d_SF_obeys_119 ki_1 ?_
          refine z_iaload (pc := 120) d_SF_obeys_120 (fun v7 => ?_)
          refine z_bipush (pc := 121) d_SF_obeys_121 kb_40 ?_
          refine z_isub (pc := 123) d_SF_obeys_123 ?_
          refine z_aload_n (pc := 124) d_SF_obeys_124 rfl 2 rfl ?_
          refine z_iconst (pc := 125) d_SF_obeys_125 ki_2 ?_
          refine z_iaload (pc := 126) d_SF_obeys_126 (fun v8 => ?_)
          refine z_iconst (pc := 127) d_SF_obeys_127 ki_2 ?_
          refine z_isub (pc := 128) d_SF_obeys_128 ?_
          refine z_aload_n (pc := 129) d_SF_obeys_129 rfl 2 rfl ?_
          refine z_iconst (pc := 130) d_SF_obeys_130 ki_3 ?_
          refine z_iaload (pc := 131) d_SF_obeys_131 (fun v9 => ?_)
          refine z_iconst (pc := 132) d_SF_obeys_132 ki_2 ?_
          refine z_isub (pc := 133) d_SF_obeys_133 ?_
          refine z_callVi (pc := 134) [.int (v6 - (40 : Int32)), .int (v7 - (40 : Int32)), .int (v8 - (2 : Int32)), .int (v9 - (2 : Int32))] lkV_SF_111 rfl (c_Hearers_add z D p5 (v6 - (40 : Int32)) (v7 - (40 : Int32)) (v8 - (2 : Int32)) (v9 - (2 : Int32))) (by decide) rfl rfl (Nat.le_of_ble_eq_true rfl) d_SF_obeys_134 (fun v10 D11 => ?_)
          refine z_iconst (pc := 137) d_SF_obeys_137 ki_m1 ?_
          refine z_icmp_eq (pc := 138) (tgt := 145) d_SF_obeys_138 (by decide) ?_ ?_
          · refine z_iconst (pc := 145) d_SF_obeys_145 ki_0 ?_
            exact z_sub [] rfl (h146 (0 : Int32) D11)
          · refine z_iconst (pc := 141) d_SF_obeys_141 ki_1 ?_
            refine z_goto (pc := 142) (tgt := 146) d_SF_obeys_142 (by decide) ?_
            exact z_sub [] rfl (h146 (1 : Int32) D11)
      · refine z_case (fun e111 => ?_) (fun e111 => ?_)
        · refine z_lookup (pc := 9) (tgt := 183) d_SF_obeys_9 rfl (by rw [e111]) (by decide) ?_
          refine z_jp (fun j203 : Nat → Int32 → Int32 → zD → Option (Int32 × zD) => ∀ (s0 : Nat) (s1 : Int32) (s2 : Int32) (D12 : zD), zGO K Y_SF_obeys 7 0 0 (zqI z) (j203 s0 s1 s2 D12) 0 0 z D12 203 [] [.int s2, .int s1, .ref s0]) (fun s0 s1 s2 D12 => ?_) (fun j203 h203 => ?_)
          · refine z_callVi (pc := 203) [.int s1, .int s2] lkV_SF_125 rfl (c_Sirens_turnTo z D12 s0 s1 s2) (by decide) rfl rfl (Nat.le_of_ble_eq_true rfl) d_SF_obeys_203 (fun v13 D14 => ?_)
            exact z_zret (pc := 206) d_SF_obeys_206 rfl
          · refine z_aload_n (pc := 183) d_SF_obeys_183 rfl 0 rfl ?_
            refine z_getR (pc := 184) fl_SF_98 d_SF_obeys_184 (fun p15 => ?_)
            refine z_aload_n (pc := 187) d_SF_obeys_187 rfl 2 rfl ?_
            refine z_iconst (pc := 188) d_SF_obeys_188 ki_0 ?_
            refine z_iaload (pc := 189) d_SF_obeys_189 (fun v16 => ?_)
            refine z_aload_n (pc := 190) d_SF_obeys_190 rfl 2 rfl ?_
            refine z_iconst (pc := 191) d_SF_obeys_191 ki_1 ?_
            refine z_iaload (pc := 192) d_SF_obeys_192 (fun v17 => ?_)
            refine z_bipush (pc := 193) d_SF_obeys_193 kb_43 ?_
            refine z_icmp_ne (pc := 195) (tgt := 202) d_SF_obeys_195 (by decide) ?_ ?_
            · refine z_iconst (pc := 198) d_SF_obeys_198 ki_1 ?_
              refine z_goto (pc := 199) (tgt := 203) d_SF_obeys_199 (by decide) ?_
              exact z_sub [] rfl (h203 p15 v16 (1 : Int32) D)
            · refine z_iconst (pc := 202) d_SF_obeys_202 ki_0 ?_
              exact z_sub [] rfl (h203 p15 v16 (0 : Int32) D)
        · refine z_case (fun e115 => ?_) (fun e115 => ?_)
          · refine z_lookup (pc := 9) (tgt := 68) d_SF_obeys_9 rfl (by rw [e115]) (by decide) ?_
            refine z_jp (fun j107 : Int32 → zD → Option (Int32 × zD) => ∀ (s0 : Int32) (D18 : zD), zGO K Y_SF_obeys 7 0 0 (zqI z) (j107 s0 D18) 0 0 z D18 107 [] [.int s0]) (fun s0 D18 => ?_) (fun j107 h107 => ?_)
            · exact z_zret (pc := 107) d_SF_obeys_107 rfl
            · refine z_aload_n (pc := 68) d_SF_obeys_68 rfl 0 rfl ?_
              refine z_getR (pc := 69) fl_SF_98 d_SF_obeys_69 (fun p19 => ?_)
              refine z_aload_n (pc := 72) d_SF_obeys_72 rfl 2 rfl ?_
              refine z_iconst (pc := 73) d_SF_obeys_73 ki_0 ?_
              refine z_iaload (pc := 74) d_SF_obeys_74 (fun v20 => ?_)
              refine z_bipush (pc := 75) d_SF_obeys_75 kb_40 ?_
              refine z_isub (pc := 77) d_SF_obeys_77 ?_
              refine z_aload_n (pc := 78) d_SF_obeys_78 rfl 2 rfl ?_
              refine z_iconst (pc := 79) d_SF_obeys_79 ki_1 ?_
              refine z_iaload (pc := 80) d_SF_obeys_80 (fun v21 => ?_)
              refine z_bipush (pc := 81) d_SF_obeys_81 kb_40 ?_
              refine z_isub (pc := 83) d_SF_obeys_83 ?_
              refine z_aload_n (pc := 84) d_SF_obeys_84 rfl 2 rfl ?_
              refine z_iconst (pc := 85) d_SF_obeys_85 ki_2 ?_
              refine z_iaload (pc := 86) d_SF_obeys_86 (fun v22 => ?_)
              refine z_aload_n (pc := 87) d_SF_obeys_87 rfl 2 rfl ?_
              refine z_iconst (pc := 88) d_SF_obeys_88 ki_3 ?_
              refine z_iaload (pc := 89) d_SF_obeys_89 (fun v23 => ?_)
              refine z_iconst (pc := 90) d_SF_obeys_90 ki_3 ?_
              refine z_isub (pc := 91) d_SF_obeys_91 ?_
              refine z_aload_n (pc := 92) d_SF_obeys_92 rfl 2 rfl ?_
              refine z_iconst (pc := 93) d_SF_obeys_93 ki_4 ?_
              refine z_iaload (pc := 94) d_SF_obeys_94 (fun v24 => ?_)
              refine z_callVi (pc := 95) [.int (v20 - (40 : Int32)), .int (v21 - (40 : Int32)), .int v22, .int (v23 - (3 : Int32)), .int v24] lkV_SF_102 rfl (c_Sirens_add z D p19 (v20 - (40 : Int32)) (v21 - (40 : Int32)) v22 (v23 - (3 : Int32)) v24) (by decide) rfl rfl (Nat.le_of_ble_eq_true rfl) d_SF_obeys_95 (fun v25 D26 => ?_)
              refine z_iconst (pc := 98) d_SF_obeys_98 ki_m1 ?_
              refine z_icmp_eq (pc := 99) (tgt := 106) d_SF_obeys_99 (by decide) ?_ ?_
              · refine z_iconst (pc := 106) d_SF_obeys_106 ki_0 ?_
                exact z_sub [] rfl (h107 (0 : Int32) D26)
              · refine z_iconst (pc := 102) d_SF_obeys_102 ki_1 ?_
                refine z_goto (pc := 103) (tgt := 107) d_SF_obeys_103 (by decide) ?_
                exact z_sub [] rfl (h107 (1 : Int32) D26)
          · refine z_case (fun e116 => ?_) (fun e116 => ?_)
            · refine z_lookup (pc := 9) (tgt := 216) d_SF_obeys_9 rfl (by rw [e116]) (by decide) ?_
              refine z_aload_n (pc := 216) d_SF_obeys_216 rfl 0 rfl ?_
              refine z_aload_n (pc := 217) d_SF_obeys_217 rfl 2 rfl ?_
              refine z_iconst (pc := 218) d_SF_obeys_218 ki_0 ?_
              refine z_iaload (pc := 219) d_SF_obeys_219 (fun v27 => ?_)
              refine z_callVv (pc := 220) [.int v27] lkV_SF_132 rfl (c_Field_pass z D r0 v27) (by decide) rfl rfl (Nat.le_of_ble_eq_true rfl) d_SF_obeys_220 (fun D28 => ?_)
              refine z_iconst (pc := 223) d_SF_obeys_223 ki_1 ?_
              exact z_zretK (pc := 224) d_SF_obeys_224 rfl (by decide)
            · refine z_case (fun e119 => ?_) (fun e119 => ?_)
              · refine z_lookup (pc := 9) (tgt := 147) d_SF_obeys_9 rfl (by rw [e119]) (by decide) ?_
                refine z_jp (fun j164 : Nat → Int32 → zD → Option (Int32 × zD) => ∀ (s0 : Nat) (s1 : Int32) (D29 : zD), zGO K Y_SF_obeys 7 0 0 (zqI z) (j164 s0 s1 D29) 0 0 z D29 164 [(2, .ref r2)] [.int s1, .ref s0]) (fun s0 s1 D29 => ?_) (fun j164 h164 => ?_)
                · refine z_jp (fun j182 : Int32 → zD → Option (Int32 × zD) => ∀ (s0 : Int32) (D30 : zD), zGO K Y_SF_obeys 7 0 0 (zqI z) (j182 s0 D30) 0 0 z D30 182 [] [.int s0]) (fun s0 D30 => ?_) (fun j182 h182 => ?_)
                  · exact z_zret (pc := 182) d_SF_obeys_182 rfl
                  · refine z_aload_n (pc := 164) d_SF_obeys_164 rfl 0 rfl ?_
                    refine z_iconst (pc := 165) d_SF_obeys_165 ki_1 ?_
                    refine z_iaload (pc := 166) d_SF_obeys_166 (fun v31 => ?_)
                    refine z_bipush (pc := 167) d_SF_obeys_167 kb_40 ?_
                    refine z_isub (pc := 169) d_SF_obeys_169 ?_
                    refine z_callVi (pc := 170) [.int s1, .int (v31 - (40 : Int32))] lkV_SF_120 rfl (c_Walls_add z D29 s0 s1 (v31 - (40 : Int32))) (by decide) rfl rfl (Nat.le_of_ble_eq_true rfl) d_SF_obeys_170 (fun v32 D33 => ?_)
                    refine z_iconst (pc := 173) d_SF_obeys_173 ki_m1 ?_
                    refine z_icmp_eq (pc := 174) (tgt := 181) d_SF_obeys_174 (by decide) ?_ ?_
                    · refine z_iconst (pc := 181) d_SF_obeys_181 ki_0 ?_
                      exact z_sub [] rfl (h182 (0 : Int32) D33)
                    · refine z_iconst (pc := 177) d_SF_obeys_177 ki_1 ?_
                      refine z_goto (pc := 178) (tgt := 182) d_SF_obeys_178 (by decide) ?_
                      exact z_sub [] rfl (h182 (1 : Int32) D33)
                · refine z_aload_n (pc := 147) d_SF_obeys_147 rfl 0 rfl ?_
                  refine z_getR (pc := 148) fl_SF_116 d_SF_obeys_148 (fun p34 => ?_)
                  refine z_aload_n (pc := 151) d_SF_obeys_151 rfl 2 rfl ?_
                  refine z_iconst (pc := 152) d_SF_obeys_152 ki_0 ?_
                  refine z_iaload (pc := 153) d_SF_obeys_153 (fun v35 => ?_)
                  refine z_bipush (pc := 154) d_SF_obeys_154 kb_117 ?_
                  refine z_icmp_ne (pc := 156) (tgt := 163) d_SF_obeys_156 (by decide) ?_ ?_
                  · refine z_iconst (pc := 159) d_SF_obeys_159 ki_1 ?_
                    refine z_goto (pc := 160) (tgt := 164) d_SF_obeys_160 (by decide) ?_
                    exact z_sub [2] rfl (h164 p34 (1 : Int32) D)
                  · refine z_iconst (pc := 163) d_SF_obeys_163 ki_0 ?_
                    exact z_sub [2] rfl (h164 p34 (0 : Int32) D)
              · refine z_lookup (pc := 9) (off := 216) (tgt := 225) d_SF_obeys_9 rfl ((lv_osw e99 rfl).trans ((lv_osw e104 rfl).trans ((lv_osw e111 rfl).trans ((lv_osw e115 rfl).trans ((lv_osw e116 rfl).trans ((lv_osw e119 rfl).trans (rfl))))))) (by decide) ?_
                refine z_iconst (pc := 225) d_SF_obeys_225 ki_0 ?_
                exact z_zretK (pc := 226) d_SF_obeys_226 rfl (by decide)
  · refine z_iconst (pc := 6) d_SF_obeys_6 ki_0 ?_
    exact z_zretK (pc := 7) d_SF_obeys_7 rfl (by decide)
theorem d_SF_succeeds_0 : decode Y_SF_succeeds.2.1 0 = .ok (.iload_n 1, 1) := by decide +kernel
theorem d_SF_succeeds_1 : decode Y_SF_succeeds.2.1 1 = .ok (.sipush (1000), 3) := by decide +kernel
theorem d_SF_succeeds_4 : decode Y_SF_succeeds.2.1 4 = .ok (.idiv, 1) := by decide +kernel
theorem d_SF_succeeds_5 : decode Y_SF_succeeds.2.1 5 = .ok (.bipush (10), 2) := by decide +kernel
theorem d_SF_succeeds_7 : decode Y_SF_succeeds.2.1 7 = .ok (.irem, 1) := by decide +kernel
theorem d_SF_succeeds_8 : decode Y_SF_succeeds.2.1 8 = .ok (.istore_n 2, 1) := by decide +kernel
theorem d_SF_succeeds_9 : decode Y_SF_succeeds.2.1 9 = .ok (.iload_n 1, 1) := by decide +kernel
theorem d_SF_succeeds_10 : decode Y_SF_succeeds.2.1 10 = .ok (.bipush (100), 2) := by decide +kernel
theorem d_SF_succeeds_12 : decode Y_SF_succeeds.2.1 12 = .ok (.idiv, 1) := by decide +kernel
theorem d_SF_succeeds_13 : decode Y_SF_succeeds.2.1 13 = .ok (.bipush (10), 2) := by decide +kernel
theorem d_SF_succeeds_15 : decode Y_SF_succeeds.2.1 15 = .ok (.irem, 1) := by decide +kernel
theorem d_SF_succeeds_16 : decode Y_SF_succeeds.2.1 16 = .ok (.istore_n 3, 1) := by decide +kernel
theorem d_SF_succeeds_17 : decode Y_SF_succeeds.2.1 17 = .ok (.iload_n 1, 1) := by decide +kernel
theorem d_SF_succeeds_18 : decode Y_SF_succeeds.2.1 18 = .ok (.bipush (10), 2) := by decide +kernel
theorem d_SF_succeeds_20 : decode Y_SF_succeeds.2.1 20 = .ok (.idiv, 1) := by decide +kernel
theorem d_SF_succeeds_21 : decode Y_SF_succeeds.2.1 21 = .ok (.bipush (10), 2) := by decide +kernel
theorem d_SF_succeeds_23 : decode Y_SF_succeeds.2.1 23 = .ok (.irem, 1) := by decide +kernel
theorem d_SF_succeeds_24 : decode Y_SF_succeeds.2.1 24 = .ok (.istore 4, 2) := by decide +kernel
theorem d_SF_succeeds_26 : decode Y_SF_succeeds.2.1 26 = .ok (.iload_n 1, 1) := by decide +kernel
theorem d_SF_succeeds_27 : decode Y_SF_succeeds.2.1 27 = .ok (.bipush (10), 2) := by decide +kernel
theorem d_SF_succeeds_29 : decode Y_SF_succeeds.2.1 29 = .ok (.irem, 1) := by decide +kernel
theorem d_SF_succeeds_30 : decode Y_SF_succeeds.2.1 30 = .ok (.istore 5, 2) := by decide +kernel
theorem d_SF_succeeds_32 : decode Y_SF_succeeds.2.1 32 = .ok (.iload_n 1, 1) := by decide +kernel
theorem d_SF_succeeds_33 : decode Y_SF_succeeds.2.1 33 = .ok (.bipush (100), 2) := by decide +kernel
theorem d_SF_succeeds_35 : decode Y_SF_succeeds.2.1 35 = .ok (.irem, 1) := by decide +kernel
theorem d_SF_succeeds_36 : decode Y_SF_succeeds.2.1 36 = .ok (.istore 6, 2) := by decide +kernel
theorem d_SF_succeeds_38 : decode Y_SF_succeeds.2.1 38 = .ok (.iload_n 1, 1) := by decide +kernel
theorem d_SF_succeeds_39 : decode Y_SF_succeeds.2.1 39 = .ok (.sipush (10000), 3) := by decide +kernel
theorem d_SF_succeeds_42 : decode Y_SF_succeeds.2.1 42 = .ok (.idiv, 1) := by decide +kernel
theorem d_SF_succeeds_43 : decode Y_SF_succeeds.2.1 43 = .ok (.tableswitch (341) 1 9 #[(49), (73), (116), (156), (181), (214), (240), (275), (310)], 49) := by decide +kernel
theorem d_SF_succeeds_92 : decode Y_SF_succeeds.2.1 92 = .ok (.iload_n 2, 1) := by decide +kernel
theorem d_SF_succeeds_93 : decode Y_SF_succeeds.2.1 93 = .ok (.ifCond .ne (13), 3) := by decide +kernel
theorem d_SF_succeeds_96 : decode Y_SF_succeeds.2.1 96 = .ok (.iload_n 3, 1) := by decide +kernel
theorem d_SF_succeeds_97 : decode Y_SF_succeeds.2.1 97 = .ok (.ifCond .ne (9), 3) := by decide +kernel
theorem d_SF_succeeds_100 : decode Y_SF_succeeds.2.1 100 = .ok (.iload 6, 2) := by decide +kernel
theorem d_SF_succeeds_102 : decode Y_SF_succeeds.2.1 102 = .ok (.iconst (1), 1) := by decide +kernel
theorem d_SF_succeeds_103 : decode Y_SF_succeeds.2.1 103 = .ok (.if_icmp .ge (5), 3) := by decide +kernel
theorem d_SF_succeeds_106 : decode Y_SF_succeeds.2.1 106 = .ok (.iconst (0), 1) := by decide +kernel
theorem d_SF_succeeds_107 : decode Y_SF_succeeds.2.1 107 = .ok (.ireturn, 1) := by decide +kernel
theorem d_SF_succeeds_108 : decode Y_SF_succeeds.2.1 108 = .ok (.aload_n 0, 1) := by decide +kernel
theorem d_SF_succeeds_109 : decode Y_SF_succeeds.2.1 109 = .ok (.iload 6, 2) := by decide +kernel
theorem d_SF_succeeds_111 : decode Y_SF_succeeds.2.1 111 = .ok (.invokevirtual 132, 3) := by decide +kernel
theorem d_SF_succeeds_114 : decode Y_SF_succeeds.2.1 114 = .ok (.iconst (1), 1) := by decide +kernel
theorem d_SF_succeeds_115 : decode Y_SF_succeeds.2.1 115 = .ok (.ireturn, 1) := by decide +kernel
theorem d_SF_succeeds_116 : decode Y_SF_succeeds.2.1 116 = .ok (.iload_n 3, 1) := by decide +kernel
theorem d_SF_succeeds_117 : decode Y_SF_succeeds.2.1 117 = .ok (.ifCond .ne (40), 3) := by decide +kernel
theorem d_SF_succeeds_120 : decode Y_SF_succeeds.2.1 120 = .ok (.iload 4, 2) := by decide +kernel
theorem d_SF_succeeds_122 : decode Y_SF_succeeds.2.1 122 = .ok (.ifCond .ne (35), 3) := by decide +kernel
theorem d_SF_succeeds_125 : decode Y_SF_succeeds.2.1 125 = .ok (.iload 5, 2) := by decide +kernel
theorem d_SF_succeeds_127 : decode Y_SF_succeeds.2.1 127 = .ok (.iconst (1), 1) := by decide +kernel
theorem d_SF_succeeds_128 : decode Y_SF_succeeds.2.1 128 = .ok (.if_icmp .gt (29), 3) := by decide +kernel
theorem d_SF_succeeds_131 : decode Y_SF_succeeds.2.1 131 = .ok (.aload_n 0, 1) := by decide +kernel
theorem d_SF_succeeds_132 : decode Y_SF_succeeds.2.1 132 = .ok (.getfield 98, 3) := by decide +kernel
theorem d_SF_succeeds_135 : decode Y_SF_succeeds.2.1 135 = .ok (.iload_n 2, 1) := by decide +kernel
theorem d_SF_succeeds_136 : decode Y_SF_succeeds.2.1 136 = .ok (.iload 5, 2) := by decide +kernel
theorem d_SF_succeeds_138 : decode Y_SF_succeeds.2.1 138 = .ok (.iconst (1), 1) := by decide +kernel
theorem d_SF_succeeds_139 : decode Y_SF_succeeds.2.1 139 = .ok (.if_icmp .ne (7), 3) := by decide +kernel
theorem d_SF_succeeds_142 : decode Y_SF_succeeds.2.1 142 = .ok (.iconst (1), 1) := by decide +kernel
theorem d_SF_succeeds_143 : decode Y_SF_succeeds.2.1 143 = .ok (.goto (4), 3) := by decide +kernel
theorem d_SF_succeeds_146 : decode Y_SF_succeeds.2.1 146 = .ok (.iconst (0), 1) := by decide +kernel
theorem d_SF_succeeds_147 : decode Y_SF_succeeds.2.1 147 = .ok (.invokevirtual 125, 3) := by decide +kernel
theorem d_SF_succeeds_150 : decode Y_SF_succeeds.2.1 150 = .ok (.ifCond .eq (7), 3) := by decide +kernel
theorem d_SF_succeeds_153 : decode Y_SF_succeeds.2.1 153 = .ok (.iconst (1), 1) := by decide +kernel
theorem d_SF_succeeds_154 : decode Y_SF_succeeds.2.1 154 = .ok (.goto (4), 3) := by decide +kernel
theorem d_SF_succeeds_157 : decode Y_SF_succeeds.2.1 157 = .ok (.iconst (0), 1) := by decide +kernel
theorem d_SF_succeeds_158 : decode Y_SF_succeeds.2.1 158 = .ok (.ireturn, 1) := by decide +kernel
theorem d_SF_succeeds_159 : decode Y_SF_succeeds.2.1 159 = .ok (.iload 5, 2) := by decide +kernel
theorem d_SF_succeeds_161 : decode Y_SF_succeeds.2.1 161 = .ok (.ifCond .ne (36), 3) := by decide +kernel
theorem d_SF_succeeds_164 : decode Y_SF_succeeds.2.1 164 = .ok (.iload_n 3, 1) := by decide +kernel
theorem d_SF_succeeds_165 : decode Y_SF_succeeds.2.1 165 = .ok (.iconst (4), 1) := by decide +kernel
theorem d_SF_succeeds_166 : decode Y_SF_succeeds.2.1 166 = .ok (.if_icmp .gt (31), 3) := by decide +kernel
theorem d_SF_succeeds_169 : decode Y_SF_succeeds.2.1 169 = .ok (.iload 4, 2) := by decide +kernel
theorem d_SF_succeeds_171 : decode Y_SF_succeeds.2.1 171 = .ok (.iconst (4), 1) := by decide +kernel
theorem d_SF_succeeds_172 : decode Y_SF_succeeds.2.1 172 = .ok (.if_icmp .gt (25), 3) := by decide +kernel
theorem d_SF_succeeds_175 : decode Y_SF_succeeds.2.1 175 = .ok (.aload_n 0, 1) := by decide +kernel
theorem d_SF_succeeds_176 : decode Y_SF_succeeds.2.1 176 = .ok (.getfield 107, 3) := by decide +kernel
theorem d_SF_succeeds_179 : decode Y_SF_succeeds.2.1 179 = .ok (.iload_n 2, 1) := by decide +kernel
theorem d_SF_succeeds_180 : decode Y_SF_succeeds.2.1 180 = .ok (.iload_n 3, 1) := by decide +kernel
theorem d_SF_succeeds_181 : decode Y_SF_succeeds.2.1 181 = .ok (.iconst (2), 1) := by decide +kernel
theorem d_SF_succeeds_182 : decode Y_SF_succeeds.2.1 182 = .ok (.isub, 1) := by decide +kernel
theorem d_SF_succeeds_183 : decode Y_SF_succeeds.2.1 183 = .ok (.iload 4, 2) := by decide +kernel
theorem d_SF_succeeds_185 : decode Y_SF_succeeds.2.1 185 = .ok (.iconst (2), 1) := by decide +kernel
theorem d_SF_succeeds_186 : decode Y_SF_succeeds.2.1 186 = .ok (.isub, 1) := by decide +kernel
theorem d_SF_succeeds_187 : decode Y_SF_succeeds.2.1 187 = .ok (.invokevirtual 314, 3) := by decide +kernel
theorem d_SF_succeeds_190 : decode Y_SF_succeeds.2.1 190 = .ok (.ifCond .eq (7), 3) := by decide +kernel
theorem d_SF_succeeds_193 : decode Y_SF_succeeds.2.1 193 = .ok (.iconst (1), 1) := by decide +kernel
theorem d_SF_succeeds_194 : decode Y_SF_succeeds.2.1 194 = .ok (.goto (4), 3) := by decide +kernel
theorem d_SF_succeeds_197 : decode Y_SF_succeeds.2.1 197 = .ok (.iconst (0), 1) := by decide +kernel
theorem d_SF_succeeds_198 : decode Y_SF_succeeds.2.1 198 = .ok (.ireturn, 1) := by decide +kernel
theorem d_SF_succeeds_199 : decode Y_SF_succeeds.2.1 199 = .ok (.iload_n 3, 1) := by decide +kernel
theorem d_SF_succeeds_200 : decode Y_SF_succeeds.2.1 200 = .ok (.ifCond .ne (12), 3) := by decide +kernel
theorem d_SF_succeeds_203 : decode Y_SF_succeeds.2.1 203 = .ok (.iload_n 2, 1) := by decide +kernel
theorem d_SF_succeeds_204 : decode Y_SF_succeeds.2.1 204 = .ok (.iload 6, 2) := by decide +kernel
theorem d_SF_succeeds_206 : decode Y_SF_succeeds.2.1 206 = .ok (.invokestatic 319, 3) := by decide +kernel
theorem d_SF_succeeds_209 : decode Y_SF_succeeds.2.1 209 = .ok (.ifCond .ne (5), 3) := by decide +kernel
theorem d_SF_succeeds_212 : decode Y_SF_succeeds.2.1 212 = .ok (.iconst (0), 1) := by decide +kernel
theorem d_SF_succeeds_213 : decode Y_SF_succeeds.2.1 213 = .ok (.ireturn, 1) := by decide +kernel
theorem d_SF_succeeds_214 : decode Y_SF_succeeds.2.1 214 = .ok (.aload_n 0, 1) := by decide +kernel
theorem d_SF_succeeds_215 : decode Y_SF_succeeds.2.1 215 = .ok (.iload_n 2, 1) := by decide +kernel
theorem d_SF_succeeds_216 : decode Y_SF_succeeds.2.1 216 = .ok (.iload 6, 2) := by decide +kernel
theorem d_SF_succeeds_218 : decode Y_SF_succeeds.2.1 218 = .ok (.invokevirtual 324, 3) := by decide +kernel
theorem d_SF_succeeds_221 : decode Y_SF_succeeds.2.1 221 = .ok (.pop, 1) := by decide +kernel
theorem d_SF_succeeds_222 : decode Y_SF_succeeds.2.1 222 = .ok (.iconst (1), 1) := by decide +kernel
theorem d_SF_succeeds_223 : decode Y_SF_succeeds.2.1 223 = .ok (.ireturn, 1) := by decide +kernel
theorem d_SF_succeeds_224 : decode Y_SF_succeeds.2.1 224 = .ok (.aload_n 0, 1) := by decide +kernel
theorem d_SF_succeeds_225 : decode Y_SF_succeeds.2.1 225 = .ok (.iload_n 2, 1) := by decide +kernel
theorem d_SF_succeeds_226 : decode Y_SF_succeeds.2.1 226 = .ok (.iload_n 3, 1) := by decide +kernel
theorem d_SF_succeeds_227 : decode Y_SF_succeeds.2.1 227 = .ok (.invokevirtual 265, 3) := by decide +kernel
theorem d_SF_succeeds_230 : decode Y_SF_succeeds.2.1 230 = .ok (.ifCond .eq (25), 3) := by decide +kernel
theorem d_SF_succeeds_233 : decode Y_SF_succeeds.2.1 233 = .ok (.aload_n 0, 1) := by decide +kernel
theorem d_SF_succeeds_234 : decode Y_SF_succeeds.2.1 234 = .ok (.getfield 154, 3) := by decide +kernel
theorem d_SF_succeeds_237 : decode Y_SF_succeeds.2.1 237 = .ok (.getfield 274, 3) := by decide +kernel
theorem d_SF_succeeds_240 : decode Y_SF_succeeds.2.1 240 = .ok (.iload_n 2, 1) := by decide +kernel
theorem d_SF_succeeds_241 : decode Y_SF_succeeds.2.1 241 = .ok (.iload_n 3, 1) := by decide +kernel
theorem d_SF_succeeds_242 : decode Y_SF_succeeds.2.1 242 = .ok (.invokestatic 271, 3) := by decide +kernel
theorem d_SF_succeeds_245 : decode Y_SF_succeeds.2.1 245 = .ok (.iaload, 1) := by decide +kernel
theorem d_SF_succeeds_246 : decode Y_SF_succeeds.2.1 246 = .ok (.iload 6, 2) := by decide +kernel
theorem d_SF_succeeds_248 : decode Y_SF_succeeds.2.1 248 = .ok (.if_icmp .lt (7), 3) := by decide +kernel
theorem d_SF_succeeds_251 : decode Y_SF_succeeds.2.1 251 = .ok (.iconst (1), 1) := by decide +kernel
theorem d_SF_succeeds_252 : decode Y_SF_succeeds.2.1 252 = .ok (.goto (4), 3) := by decide +kernel
theorem d_SF_succeeds_255 : decode Y_SF_succeeds.2.1 255 = .ok (.iconst (0), 1) := by decide +kernel
theorem d_SF_succeeds_256 : decode Y_SF_succeeds.2.1 256 = .ok (.ireturn, 1) := by decide +kernel
theorem d_SF_succeeds_257 : decode Y_SF_succeeds.2.1 257 = .ok (.iload_n 2, 1) := by decide +kernel
theorem d_SF_succeeds_258 : decode Y_SF_succeeds.2.1 258 = .ok (.ifCond .ne (23), 3) := by decide +kernel
theorem d_SF_succeeds_261 : decode Y_SF_succeeds.2.1 261 = .ok (.iload_n 3, 1) := by decide +kernel
theorem d_SF_succeeds_262 : decode Y_SF_succeeds.2.1 262 = .ok (.ifCond .ne (19), 3) := by decide +kernel
theorem d_SF_succeeds_265 : decode Y_SF_succeeds.2.1 265 = .ok (.aload_n 0, 1) := by decide +kernel
theorem d_SF_succeeds_266 : decode Y_SF_succeeds.2.1 266 = .ok (.getfield 144, 3) := by decide +kernel
theorem d_SF_succeeds_269 : decode Y_SF_succeeds.2.1 269 = .ok (.getfield 148, 3) := by decide +kernel
theorem d_SF_succeeds_272 : decode Y_SF_succeeds.2.1 272 = .ok (.iload 6, 2) := by decide +kernel
theorem d_SF_succeeds_274 : decode Y_SF_succeeds.2.1 274 = .ok (.if_icmp .gt (7), 3) := by decide +kernel
theorem d_SF_succeeds_277 : decode Y_SF_succeeds.2.1 277 = .ok (.iconst (1), 1) := by decide +kernel
theorem d_SF_succeeds_278 : decode Y_SF_succeeds.2.1 278 = .ok (.goto (4), 3) := by decide +kernel
theorem d_SF_succeeds_281 : decode Y_SF_succeeds.2.1 281 = .ok (.iconst (0), 1) := by decide +kernel
theorem d_SF_succeeds_282 : decode Y_SF_succeeds.2.1 282 = .ok (.ireturn, 1) := by decide +kernel
theorem d_SF_succeeds_283 : decode Y_SF_succeeds.2.1 283 = .ok (.iload_n 3, 1) := by decide +kernel
theorem d_SF_succeeds_284 : decode Y_SF_succeeds.2.1 284 = .ok (.ifCond .ne (32), 3) := by decide +kernel
theorem d_SF_succeeds_287 : decode Y_SF_succeeds.2.1 287 = .ok (.aload_n 0, 1) := by decide +kernel
theorem d_SF_succeeds_288 : decode Y_SF_succeeds.2.1 288 = .ok (.getfield 107, 3) := by decide +kernel
theorem d_SF_succeeds_291 : decode Y_SF_succeeds.2.1 291 = .ok (.iload_n 2, 1) := by decide +kernel
theorem d_SF_succeeds_292 : decode Y_SF_succeeds.2.1 292 = .ok (.invokevirtual 216, 3) := by decide +kernel
theorem d_SF_succeeds_295 : decode Y_SF_succeeds.2.1 295 = .ok (.ifCond .eq (21), 3) := by decide +kernel
theorem d_SF_succeeds_298 : decode Y_SF_succeeds.2.1 298 = .ok (.aload_n 0, 1) := by decide +kernel
theorem d_SF_succeeds_299 : decode Y_SF_succeeds.2.1 299 = .ok (.getfield 107, 3) := by decide +kernel
theorem d_SF_succeeds_302 : decode Y_SF_succeeds.2.1 302 = .ok (.getfield 227, 3) := by decide +kernel
theorem d_SF_succeeds_305 : decode Y_SF_succeeds.2.1 305 = .ok (.iload_n 2, 1) := by decide +kernel
theorem d_SF_succeeds_306 : decode Y_SF_succeeds.2.1 306 = .ok (.iaload, 1) := by decide +kernel
theorem d_SF_succeeds_307 : decode Y_SF_succeeds.2.1 307 = .ok (.iload 6, 2) := by decide +kernel
theorem d_SF_succeeds_309 : decode Y_SF_succeeds.2.1 309 = .ok (.if_icmp .lt (7), 3) := by decide +kernel
theorem d_SF_succeeds_312 : decode Y_SF_succeeds.2.1 312 = .ok (.iconst (1), 1) := by decide +kernel
theorem d_SF_succeeds_313 : decode Y_SF_succeeds.2.1 313 = .ok (.goto (4), 3) := by decide +kernel
theorem d_SF_succeeds_316 : decode Y_SF_succeeds.2.1 316 = .ok (.iconst (0), 1) := by decide +kernel
theorem d_SF_succeeds_317 : decode Y_SF_succeeds.2.1 317 = .ok (.ireturn, 1) := by decide +kernel
theorem d_SF_succeeds_318 : decode Y_SF_succeeds.2.1 318 = .ok (.iload_n 3, 1) := by decide +kernel
theorem d_SF_succeeds_319 : decode Y_SF_succeeds.2.1 319 = .ok (.ifCond .ne (32), 3) := by decide +kernel
theorem d_SF_succeeds_322 : decode Y_SF_succeeds.2.1 322 = .ok (.aload_n 0, 1) := by decide +kernel
theorem d_SF_succeeds_323 : decode Y_SF_succeeds.2.1 323 = .ok (.getfield 98, 3) := by decide +kernel
theorem d_SF_succeeds_326 : decode Y_SF_succeeds.2.1 326 = .ok (.iload_n 2, 1) := by decide +kernel
theorem d_SF_succeeds_327 : decode Y_SF_succeeds.2.1 327 = .ok (.invokevirtual 174, 3) := by decide +kernel
theorem d_SF_succeeds_330 : decode Y_SF_succeeds.2.1 330 = .ok (.ifCond .eq (21), 3) := by decide +kernel
theorem d_SF_succeeds_333 : decode Y_SF_succeeds.2.1 333 = .ok (.aload_n 0, 1) := by decide +kernel
theorem d_SF_succeeds_334 : decode Y_SF_succeeds.2.1 334 = .ok (.getfield 98, 3) := by decide +kernel
theorem d_SF_succeeds_337 : decode Y_SF_succeeds.2.1 337 = .ok (.getfield 201, 3) := by decide +kernel
theorem d_SF_succeeds_340 : decode Y_SF_succeeds.2.1 340 = .ok (.iload_n 2, 1) := by decide +kernel
theorem d_SF_succeeds_341 : decode Y_SF_succeeds.2.1 341 = .ok (.iaload, 1) := by decide +kernel
theorem d_SF_succeeds_342 : decode Y_SF_succeeds.2.1 342 = .ok (.iload 6, 2) := by decide +kernel
theorem d_SF_succeeds_344 : decode Y_SF_succeeds.2.1 344 = .ok (.if_icmp .ne (7), 3) := by decide +kernel
theorem d_SF_succeeds_347 : decode Y_SF_succeeds.2.1 347 = .ok (.iconst (1), 1) := by decide +kernel
theorem d_SF_succeeds_348 : decode Y_SF_succeeds.2.1 348 = .ok (.goto (4), 3) := by decide +kernel
theorem d_SF_succeeds_351 : decode Y_SF_succeeds.2.1 351 = .ok (.iconst (0), 1) := by decide +kernel
theorem d_SF_succeeds_352 : decode Y_SF_succeeds.2.1 352 = .ok (.ireturn, 1) := by decide +kernel
theorem d_SF_succeeds_353 : decode Y_SF_succeeds.2.1 353 = .ok (.iload 4, 2) := by decide +kernel
theorem d_SF_succeeds_355 : decode Y_SF_succeeds.2.1 355 = .ok (.ifCond .ne (27), 3) := by decide +kernel
theorem d_SF_succeeds_358 : decode Y_SF_succeeds.2.1 358 = .ok (.aload_n 0, 1) := by decide +kernel
theorem d_SF_succeeds_359 : decode Y_SF_succeeds.2.1 359 = .ok (.iload_n 2, 1) := by decide +kernel
theorem d_SF_succeeds_360 : decode Y_SF_succeeds.2.1 360 = .ok (.iload_n 3, 1) := by decide +kernel
theorem d_SF_succeeds_361 : decode Y_SF_succeeds.2.1 361 = .ok (.invokevirtual 265, 3) := by decide +kernel
theorem d_SF_succeeds_364 : decode Y_SF_succeeds.2.1 364 = .ok (.ifCond .eq (18), 3) := by decide +kernel
theorem d_SF_succeeds_367 : decode Y_SF_succeeds.2.1 367 = .ok (.aload_n 0, 1) := by decide +kernel
theorem d_SF_succeeds_368 : decode Y_SF_succeeds.2.1 368 = .ok (.iload_n 2, 1) := by decide +kernel
theorem d_SF_succeeds_369 : decode Y_SF_succeeds.2.1 369 = .ok (.iload_n 3, 1) := by decide +kernel
theorem d_SF_succeeds_370 : decode Y_SF_succeeds.2.1 370 = .ok (.invokevirtual 289, 3) := by decide +kernel
theorem d_SF_succeeds_373 : decode Y_SF_succeeds.2.1 373 = .ok (.iload 5, 2) := by decide +kernel
theorem d_SF_succeeds_375 : decode Y_SF_succeeds.2.1 375 = .ok (.if_icmp .ne (7), 3) := by decide +kernel
theorem d_SF_succeeds_378 : decode Y_SF_succeeds.2.1 378 = .ok (.iconst (1), 1) := by decide +kernel
theorem d_SF_succeeds_379 : decode Y_SF_succeeds.2.1 379 = .ok (.goto (4), 3) := by decide +kernel
theorem d_SF_succeeds_382 : decode Y_SF_succeeds.2.1 382 = .ok (.iconst (0), 1) := by decide +kernel
theorem d_SF_succeeds_383 : decode Y_SF_succeeds.2.1 383 = .ok (.ireturn, 1) := by decide +kernel
theorem d_SF_succeeds_384 : decode Y_SF_succeeds.2.1 384 = .ok (.iconst (0), 1) := by decide +kernel
theorem d_SF_succeeds_385 : decode Y_SF_succeeds.2.1 385 = .ok (.ireturn, 1) := by decide +kernel
def f_SF_succeeds (w : zW) (D : zD) (r0 : Nat) (x1 : Int32) : Option (Int32 × zD) := zlet (zirem (x1 / (1000 : Int32)) (10 : Int32)) (fun v1 => zlet (zirem (x1 / (100 : Int32)) (10 : Int32)) (fun v2 => zlet (zirem (x1 / (10 : Int32)) (10 : Int32)) (fun v3 => zlet (zirem x1 (10 : Int32)) (fun v4 => zlet (zirem x1 (100 : Int32)) (fun v5 => zlet (x1 / (10000 : Int32)) (fun v6 => (if v6 = (1 : Int32) then zjp (fun (D7 : zD) => some ((0 : Int32), D7)) (fun j106 => (if v1 = 0 then (if v2 = 0 then (if (1 : Int32) ≤ v5 then zobj w 3 r0 (zcv (f_Field_pass w D r0 v5) (fun D8 => some ((1 : Int32), D8))) else j106 D) else j106 D) else j106 D)) else (if v6 = (2 : Int32) then zjp (fun (s0 : Int32) (D9 : zD) => zchk (s0 = 0 ∨ s0 = 1) (some (s0, D9))) (fun j158 => zjp (fun (D10 : zD) => j158 (0 : Int32) D10) (fun j157 => (if v2 = 0 then (if v3 = 0 then (if (1 : Int32) < v4 then j157 D else zjp (fun (s0 : Nat) (s1 : Int32) (s2 : Int32) (D11 : zD) => zobj w 6 s0 (zci (f_Sirens_turnTo w D11 s0 s1 s2) (fun v12 D13 => (if v12 = 0 then j157 D13 else j158 (1 : Int32) D13)))) (fun j147 => zref w 3 0 r0 (fun p14 => (if v4 = (1 : Int32) then j147 p14 v1 (1 : Int32) D else j147 p14 v1 (0 : Int32) D)))) else j157 D) else j157 D))) else (if v6 = (3 : Int32) then zjp (fun (s0 : Int32) (D15 : zD) => zchk (s0 = 0 ∨ s0 = 1) (some (s0, D15))) (fun j198 => zjp (fun (D16 : zD) => j198 (0 : Int32) D16) (fun j197 => (if v4 = 0 then (if (4 : Int32) < v2 then j197 D else (if (4 : Int32) < v3 then j197 D else zref w 3 1 r0 (fun p17 => zobj w 4 p17 (zci (f_Hearers_send w D p17 v1 (v2 - (2 : Int32)) (v3 - (2 : Int32))) (fun v18 D19 => (if v18 = 0 then j197 D19 else j198 (1 : Int32) D19)))))) else j197 D))) else (if v6 = (4 : Int32) then zjp (fun (D20 : zD) => some ((0 : Int32), D20)) (fun j212 => (if v2 = 0 then zci (f_Field_isSetting w D v1 v5) (fun v21 D22 => (if v21 = 0 then j212 D22 else zobj w 3 r0 (zci (f_Field_change w D22 r0 v1 v5) (fun v23 D24 => some ((1 : Int32), D24))))) else j212 D)) else (if v6 = (5 : Int32) then zjp (fun (s0 : Int32) (D25 : zD) => zchk (s0 = 0 ∨ s0 = 1) (some (s0, D25))) (fun j256 => zjp (fun (D26 : zD) => j256 (0 : Int32) D26) (fun j255 => zobj w 3 r0 (zci (f_Field_hasPair w D r0 v1 v2) (fun v27 D28 => (if v27 = 0 then j255 D28 else zref w 3 4 r0 (fun p29 => zref w 1 0 p29 (fun p30 => zci (f_Ears_pairOf w D28 v1 v2) (fun v31 D32 => zald w D32 0 p30 v31 (fun v33 => (if v33 < v5 then j255 D32 else j256 (1 : Int32) D32)))))))))) else (if v6 = (6 : Int32) then zjp (fun (s0 : Int32) (D34 : zD) => zchk (s0 = 0 ∨ s0 = 1) (some (s0, D34))) (fun j282 => zjp (fun (D35 : zD) => j282 (0 : Int32) D35) (fun j281 => (if v1 = 0 then (if v2 = 0 then zref w 3 3 r0 (fun p36 => zfld w D 5 7 p36 (fun v37 => (if v5 < v37 then j281 D else j282 (1 : Int32) D))) else j281 D) else j281 D))) else (if v6 = (7 : Int32) then zjp (fun (s0 : Int32) (D38 : zD) => zchk (s0 = 0 ∨ s0 = 1) (some (s0, D38))) (fun j317 => zjp (fun (D39 : zD) => j317 (0 : Int32) D39) (fun j316 => (if v2 = 0 then zref w 3 1 r0 (fun p40 => zobj w 4 p40 (zci (f_Hearers_has w D p40 v1) (fun v41 D42 => (if v41 = 0 then j316 D42 else zref w 3 1 r0 (fun p43 => zref w 4 4 p43 (fun p44 => zald w D42 0 p44 v1 (fun v45 => (if v45 < v5 then j316 D42 else j317 (1 : Int32) D42)))))))) else j316 D))) else (if v6 = (8 : Int32) then zjp (fun (s0 : Int32) (D46 : zD) => zchk (s0 = 0 ∨ s0 = 1) (some (s0, D46))) (fun j352 => zjp (fun (D47 : zD) => j352 (0 : Int32) D47) (fun j351 => (if v2 = 0 then zref w 3 0 r0 (fun p48 => zobj w 6 p48 (zci (f_Sirens_has w D p48 v1) (fun v49 D50 => (if v49 = 0 then j351 D50 else zref w 3 0 r0 (fun p51 => zref w 6 5 p51 (fun p52 => zald w D50 0 p52 v1 (fun v53 => (if v53 = v5 then j352 (1 : Int32) D50 else j351 D50)))))))) else j351 D))) else (if v6 = (9 : Int32) then zjp (fun (s0 : Int32) (D54 : zD) => zchk (s0 = 0 ∨ s0 = 1) (some (s0, D54))) (fun j383 => zjp (fun (D55 : zD) => j383 (0 : Int32) D55) (fun j382 => (if v3 = 0 then zobj w 3 r0 (zci (f_Field_hasPair w D r0 v1 v2) (fun v56 D57 => (if v56 = 0 then j382 D57 else zobj w 3 r0 (zci (f_Field_soundOf w D57 r0 v1 v2) (fun v58 D59 => (if v58 = v4 then j383 (1 : Int32) D59 else j382 D59)))))) else j382 D))) else some ((0 : Int32), D))))))))))))))))
set_option maxHeartbeats 4000000 in
set_option maxRecDepth 100000 in
theorem c_SF_succeeds (z : zT) (D : zD) (r0 : Nat) (x1 : Int32) : zM Y_SF_succeeds 7 0 0 (zqI z) (f_SF_succeeds z.2 D r0 x1) [.ref r0, .int x1] z D := by
  refine zM_of (plainFor_of_name (by decide +kernel)) rfl (Nat.le_of_ble_eq_true rfl) (fun _ _ _ _ h => nomatch h.1) (fun K => ?_)
  unfold f_SF_succeeds
  refine z_iload_n (pc := 0) d_SF_succeeds_0 rfl 1 rfl ?_
  refine z_sipush (pc := 1) d_SF_succeeds_1 ks_1000 ?_
  refine z_idivK (pc := 4) d_SF_succeeds_4 (by decide) ?_
  refine z_bipush (pc := 5) d_SF_succeeds_5 kb_10 ?_
  refine z_iremK (pc := 7) d_SF_succeeds_7 (by decide) ?_
  refine z_leti (fun v1 => ?_)
  refine z_istore_n (pc := 8) d_SF_succeeds_8 rfl (by decide) (lv' := [(2, .int v1), (0, .ref r0), (1, .int x1)]) rfl ?_
  refine z_iload_n (pc := 9) d_SF_succeeds_9 rfl 2 rfl ?_
  refine z_bipush (pc := 10) d_SF_succeeds_10 kb_100 ?_
  refine z_idivK (pc := 12) d_SF_succeeds_12 (by decide) ?_
  refine z_bipush (pc := 13) d_SF_succeeds_13 kb_10 ?_
  refine z_iremK (pc := 15) d_SF_succeeds_15 (by decide) ?_
  refine z_leti (fun v2 => ?_)
  refine z_istore_n (pc := 16) d_SF_succeeds_16 rfl (by decide) (lv' := [(3, .int v2), (2, .int v1), (0, .ref r0), (1, .int x1)]) rfl ?_
  refine z_iload_n (pc := 17) d_SF_succeeds_17 rfl 3 rfl ?_
  refine z_bipush (pc := 18) d_SF_succeeds_18 kb_10 ?_
  refine z_idivK (pc := 20) d_SF_succeeds_20 (by decide) ?_
  refine z_bipush (pc := 21) d_SF_succeeds_21 kb_10 ?_
  refine z_iremK (pc := 23) d_SF_succeeds_23 (by decide) ?_
  refine z_leti (fun v3 => ?_)
  refine z_istore (pc := 24) d_SF_succeeds_24 (by decide) (lv' := [(4, .int v3), (3, .int v2), (2, .int v1), (0, .ref r0), (1, .int x1)]) rfl ?_
  refine z_iload_n (pc := 26) d_SF_succeeds_26 rfl 4 rfl ?_
  refine z_bipush (pc := 27) d_SF_succeeds_27 kb_10 ?_
  refine z_iremK (pc := 29) d_SF_succeeds_29 (by decide) ?_
  refine z_leti (fun v4 => ?_)
  refine z_istore (pc := 30) d_SF_succeeds_30 (by decide) (lv' := [(5, .int v4), (4, .int v3), (3, .int v2), (2, .int v1), (0, .ref r0), (1, .int x1)]) rfl ?_
  refine z_iload_n (pc := 32) d_SF_succeeds_32 rfl 5 rfl ?_
  refine z_bipush (pc := 33) d_SF_succeeds_33 kb_100 ?_
  refine z_iremK (pc := 35) d_SF_succeeds_35 (by decide) ?_
  refine z_leti (fun v5 => ?_)
  refine z_istore (pc := 36) d_SF_succeeds_36 (by decide) (lv' := [(6, .int v5), (5, .int v4), (4, .int v3), (3, .int v2), (2, .int v1), (0, .ref r0), (1, .int x1)]) rfl ?_
  refine z_iload_n (pc := 38) d_SF_succeeds_38 rfl 6 rfl ?_
  refine z_sipush (pc := 39) d_SF_succeeds_39 ks_10000 ?_
  refine z_idivK (pc := 42) d_SF_succeeds_42 (by decide) ?_
  refine z_leti (fun v6 => ?_)
  refine z_case (fun e1 => ?_) (fun e1 => ?_)
  · refine z_tableIn (pc := 43) (tgt := 92) d_SF_succeeds_43 e1 (by decide) (by decide) rfl (by decide) ?_
    refine z_jp (fun j106 : zD → Option (Int32 × zD) => ∀ (D7 : zD), zGO K Y_SF_succeeds 7 0 0 (zqI z) (j106  D7) 0 0 z D7 106 [] []) (fun  D7 => ?_) (fun j106 h106 => ?_)
    · refine z_iconst (pc := 106) d_SF_succeeds_106 ki_0 ?_
      exact z_zretK (pc := 107) d_SF_succeeds_107 rfl (by decide)
    · refine z_iload_n (pc := 92) d_SF_succeeds_92 rfl 4 rfl ?_
      refine z_if_ne (pc := 93) (tgt := 106) d_SF_succeeds_93 (by decide) ?_ ?_
      · refine z_iload_n (pc := 96) d_SF_succeeds_96 rfl 3 rfl ?_
        refine z_if_ne (pc := 97) (tgt := 106) d_SF_succeeds_97 (by decide) ?_ ?_
        · refine z_iload (pc := 100) d_SF_succeeds_100 0 rfl ?_
          refine z_iconst (pc := 102) d_SF_succeeds_102 ki_1 ?_
          refine z_icmp_ge (pc := 103) (tgt := 108) d_SF_succeeds_103 (by decide) ?_ ?_
          · refine z_aload_n (pc := 108) d_SF_succeeds_108 rfl 5 rfl ?_
            refine z_iload (pc := 109) d_SF_succeeds_109 0 rfl ?_
            refine z_callVv (pc := 111) [.int v5] lkV_SF_132 rfl (c_Field_pass z D r0 v5) (by decide) rfl rfl (Nat.le_of_ble_eq_true rfl) d_SF_succeeds_111 (fun D8 => ?_)
            refine z_iconst (pc := 114) d_SF_succeeds_114 ki_1 ?_
            exact z_zretK (pc := 115) d_SF_succeeds_115 rfl (by decide)
          · exact z_sub [] rfl (h106 D)
        · exact z_sub [] rfl (h106 D)
      · exact z_sub [] rfl (h106 D)
  · refine z_case (fun e2 => ?_) (fun e2 => ?_)
    · refine z_tableIn (pc := 43) (tgt := 116) d_SF_succeeds_43 e2 (by decide) (by decide) rfl (by decide) ?_
      refine z_jp (fun j158 : Int32 → zD → Option (Int32 × zD) => ∀ (s0 : Int32) (D9 : zD), zGO K Y_SF_succeeds 7 0 0 (zqI z) (j158 s0 D9) 0 0 z D9 158 [] [.int s0]) (fun s0 D9 => ?_) (fun j158 h158 => ?_)
      · exact z_zret (pc := 158) d_SF_succeeds_158 rfl
      · refine z_jp (fun j157 : zD → Option (Int32 × zD) => ∀ (D10 : zD), zGO K Y_SF_succeeds 7 0 0 (zqI z) (j157  D10) 0 0 z D10 157 [] []) (fun  D10 => ?_) (fun j157 h157 => ?_)
        · refine z_iconst (pc := 157) d_SF_succeeds_157 ki_0 ?_
          exact z_sub [] rfl (h158 (0 : Int32) D10)
        · refine z_iload_n (pc := 116) d_SF_succeeds_116 rfl 3 rfl ?_
          refine z_if_ne (pc := 117) (tgt := 157) d_SF_succeeds_117 (by decide) ?_ ?_
          · refine z_iload (pc := 120) d_SF_succeeds_120 2 rfl ?_
            refine z_if_ne (pc := 122) (tgt := 157) d_SF_succeeds_122 (by decide) ?_ ?_
            · refine z_iload (pc := 125) d_SF_succeeds_125 1 rfl ?_
              refine z_iconst (pc := 127) d_SF_succeeds_127 ki_1 ?_
              refine z_icmp_gt (pc := 128) (tgt := 157) d_SF_succeeds_128 (by decide) ?_ ?_
              · exact z_sub [] rfl (h157 D)
              · refine z_jp (fun j147 : Nat → Int32 → Int32 → zD → Option (Int32 × zD) => ∀ (s0 : Nat) (s1 : Int32) (s2 : Int32) (D11 : zD), zGO K Y_SF_succeeds 7 0 0 (zqI z) (j147 s0 s1 s2 D11) 0 0 z D11 147 [] [.int s2, .int s1, .ref s0]) (fun s0 s1 s2 D11 => ?_) (fun j147 h147 => ?_)
                · refine z_callVi (pc := 147) [.int s1, .int s2] lkV_SF_125 rfl (c_Sirens_turnTo z D11 s0 s1 s2) (by decide) rfl rfl (Nat.le_of_ble_eq_true rfl) d_SF_succeeds_147 (fun v12 D13 => ?_)
                  refine z_if_eq (pc := 150) (tgt := 157) d_SF_succeeds_150 (by decide) ?_ ?_
                  · exact z_sub [] rfl (h157 D13)
                  · refine z_iconst (pc := 153) d_SF_succeeds_153 ki_1 ?_
                    refine z_goto (pc := 154) (tgt := 158) d_SF_succeeds_154 (by decide) ?_
                    exact z_sub [] rfl (h158 (1 : Int32) D13)
                · refine z_aload_n (pc := 131) d_SF_succeeds_131 rfl 5 rfl ?_
                  refine z_getR (pc := 132) fl_SF_98 d_SF_succeeds_132 (fun p14 => ?_)
                  refine z_iload_n (pc := 135) d_SF_succeeds_135 rfl 4 rfl ?_
                  refine z_iload (pc := 136) d_SF_succeeds_136 1 rfl ?_
                  refine z_iconst (pc := 138) d_SF_succeeds_138 ki_1 ?_
                  refine z_icmp_ne (pc := 139) (tgt := 146) d_SF_succeeds_139 (by decide) ?_ ?_
                  · refine z_iconst (pc := 142) d_SF_succeeds_142 ki_1 ?_
                    refine z_goto (pc := 143) (tgt := 147) d_SF_succeeds_143 (by decide) ?_
                    exact z_sub [] rfl (h147 p14 v1 (1 : Int32) D)
                  · refine z_iconst (pc := 146) d_SF_succeeds_146 ki_0 ?_
                    exact z_sub [] rfl (h147 p14 v1 (0 : Int32) D)
            · exact z_sub [] rfl (h157 D)
          · exact z_sub [] rfl (h157 D)
    · refine z_case (fun e3 => ?_) (fun e3 => ?_)
      · refine z_tableIn (pc := 43) (tgt := 159) d_SF_succeeds_43 e3 (by decide) (by decide) rfl (by decide) ?_
        refine z_jp (fun j198 : Int32 → zD → Option (Int32 × zD) => ∀ (s0 : Int32) (D15 : zD), zGO K Y_SF_succeeds 7 0 0 (zqI z) (j198 s0 D15) 0 0 z D15 198 [] [.int s0]) (fun s0 D15 => ?_) (fun j198 h198 => ?_)
        · exact z_zret (pc := 198) d_SF_succeeds_198 rfl
        · refine z_jp (fun j197 : zD → Option (Int32 × zD) => ∀ (D16 : zD), zGO K Y_SF_succeeds 7 0 0 (zqI z) (j197  D16) 0 0 z D16 197 [] []) (fun  D16 => ?_) (fun j197 h197 => ?_)
          · refine z_iconst (pc := 197) d_SF_succeeds_197 ki_0 ?_
            exact z_sub [] rfl (h198 (0 : Int32) D16)
          · refine z_iload (pc := 159) d_SF_succeeds_159 1 rfl ?_
            refine z_if_ne (pc := 161) (tgt := 197) d_SF_succeeds_161 (by decide) ?_ ?_
            · refine z_iload_n (pc := 164) d_SF_succeeds_164 rfl 3 rfl ?_
              refine z_iconst (pc := 165) d_SF_succeeds_165 ki_4 ?_
              refine z_icmp_gt (pc := 166) (tgt := 197) d_SF_succeeds_166 (by decide) ?_ ?_
              · exact z_sub [] rfl (h197 D)
              · refine z_iload (pc := 169) d_SF_succeeds_169 2 rfl ?_
                refine z_iconst (pc := 171) d_SF_succeeds_171 ki_4 ?_
                refine z_icmp_gt (pc := 172) (tgt := 197) d_SF_succeeds_172 (by decide) ?_ ?_
                · exact z_sub [] rfl (h197 D)
                · refine z_aload_n (pc := 175) d_SF_succeeds_175 rfl 5 rfl ?_
                  refine z_getR (pc := 176) fl_SF_107 d_SF_succeeds_176 (fun p17 => ?_)
                  refine z_iload_n (pc := 179) d_SF_succeeds_179 rfl 4 rfl ?_
                  refine z_iload_n (pc := 180) d_SF_succeeds_180 rfl 3 rfl ?_
                  refine z_iconst (pc := 181) d_SF_succeeds_181 ki_2 ?_
                  refine z_isub (pc := 182) d_SF_succeeds_182 ?_
                  refine z_iload (pc := 183) d_SF_succeeds_183 2 rfl ?_
                  refine z_iconst (pc := 185) d_SF_succeeds_185 ki_2 ?_
                  refine z_isub (pc := 186) d_SF_succeeds_186 ?_
                  refine z_callVi (pc := 187) [.int v1, .int (v2 - (2 : Int32)), .int (v3 - (2 : Int32))] lkV_SF_314 rfl (c_Hearers_send z D p17 v1 (v2 - (2 : Int32)) (v3 - (2 : Int32))) (by decide) rfl rfl (Nat.le_of_ble_eq_true rfl) d_SF_succeeds_187 (fun v18 D19 => ?_)
                  refine z_if_eq (pc := 190) (tgt := 197) d_SF_succeeds_190 (by decide) ?_ ?_
                  · exact z_sub [] rfl (h197 D19)
                  · refine z_iconst (pc := 193) d_SF_succeeds_193 ki_1 ?_
                    refine z_goto (pc := 194) (tgt := 198) d_SF_succeeds_194 (by decide) ?_
                    exact z_sub [] rfl (h198 (1 : Int32) D19)
            · exact z_sub [] rfl (h197 D)
      · refine z_case (fun e4 => ?_) (fun e4 => ?_)
        · refine z_tableIn (pc := 43) (tgt := 199) d_SF_succeeds_43 e4 (by decide) (by decide) rfl (by decide) ?_
          refine z_jp (fun j212 : zD → Option (Int32 × zD) => ∀ (D20 : zD), zGO K Y_SF_succeeds 7 0 0 (zqI z) (j212  D20) 0 0 z D20 212 [] []) (fun  D20 => ?_) (fun j212 h212 => ?_)
          · refine z_iconst (pc := 212) d_SF_succeeds_212 ki_0 ?_
            exact z_zretK (pc := 213) d_SF_succeeds_213 rfl (by decide)
          · refine z_iload_n (pc := 199) d_SF_succeeds_199 rfl 3 rfl ?_
            refine z_if_ne (pc := 200) (tgt := 212) d_SF_succeeds_200 (by decide) ?_ ?_
            · refine z_iload_n (pc := 203) d_SF_succeeds_203 rfl 4 rfl ?_
              refine z_iload (pc := 204) d_SF_succeeds_204 0 rfl ?_
              refine z_callSi (pc := 206) [.int v1, .int v5] lkS_SF_319 (c_Field_isSetting z D v1 v5) (by decide) rfl rfl (Nat.le_of_ble_eq_true rfl) d_SF_succeeds_206 (fun v21 D22 => ?_)
              refine z_if_ne (pc := 209) (tgt := 214) d_SF_succeeds_209 (by decide) ?_ ?_
              · exact z_sub [] rfl (h212 D22)
              · refine z_aload_n (pc := 214) d_SF_succeeds_214 rfl 5 rfl ?_
                refine z_iload_n (pc := 215) d_SF_succeeds_215 rfl 4 rfl ?_
                refine z_iload (pc := 216) d_SF_succeeds_216 0 rfl ?_
                refine z_callVi (pc := 218) [.int v1, .int v5] lkV_SF_324 rfl (c_Field_change z D22 r0 v1 v5) (by decide) rfl rfl (Nat.le_of_ble_eq_true rfl) d_SF_succeeds_218 (fun v23 D24 => ?_)
                refine z_pop (pc := 221) d_SF_succeeds_221 rfl ?_
                refine z_iconst (pc := 222) d_SF_succeeds_222 ki_1 ?_
                exact z_zretK (pc := 223) d_SF_succeeds_223 rfl (by decide)
            · exact z_sub [] rfl (h212 D)
        · refine z_case (fun e5 => ?_) (fun e5 => ?_)
          · refine z_tableIn (pc := 43) (tgt := 224) d_SF_succeeds_43 e5 (by decide) (by decide) rfl (by decide) ?_
            refine z_jp (fun j256 : Int32 → zD → Option (Int32 × zD) => ∀ (s0 : Int32) (D25 : zD), zGO K Y_SF_succeeds 7 0 0 (zqI z) (j256 s0 D25) 0 0 z D25 256 [] [.int s0]) (fun s0 D25 => ?_) (fun j256 h256 => ?_)
            · exact z_zret (pc := 256) d_SF_succeeds_256 rfl
            · refine z_jp (fun j255 : zD → Option (Int32 × zD) => ∀ (D26 : zD), zGO K Y_SF_succeeds 7 0 0 (zqI z) (j255  D26) 0 0 z D26 255 [] []) (fun  D26 => ?_) (fun j255 h255 => ?_)
              · refine z_iconst (pc := 255) d_SF_succeeds_255 ki_0 ?_
                exact z_sub [] rfl (h256 (0 : Int32) D26)
              · refine z_aload_n (pc := 224) d_SF_succeeds_224 rfl 5 rfl ?_
                refine z_iload_n (pc := 225) d_SF_succeeds_225 rfl 4 rfl ?_
                refine z_iload_n (pc := 226) d_SF_succeeds_226 rfl 3 rfl ?_
                refine z_callVi (pc := 227) [.int v1, .int v2] lkV_SF_265 rfl (c_Field_hasPair z D r0 v1 v2) (by decide) rfl rfl (Nat.le_of_ble_eq_true rfl) d_SF_succeeds_227 (fun v27 D28 => ?_)
                refine z_if_eq (pc := 230) (tgt := 255) d_SF_succeeds_230 (by decide) ?_ ?_
                · exact z_sub [] rfl (h255 D28)
                · refine z_aload_n (pc := 233) d_SF_succeeds_233 rfl 5 rfl ?_
                  refine z_getR (pc := 234) fl_SF_154 d_SF_succeeds_234 (fun p29 => ?_)
                  refine z_getR (pc := 237) fl_SF_274 d_SF_succeeds_237 (fun p30 => ?_)
                  refine z_iload_n (pc := 240) d_SF_succeeds_240 rfl 4 rfl ?_
                  refine z_iload_n (pc := 241) d_SF_succeeds_241 rfl 3 rfl ?_
                  refine z_callSi (pc := 242) [.int v1, .int v2] lkS_SF_271 (c_Ears_pairOf z D28 v1 v2) (by decide) rfl rfl (Nat.le_of_ble_eq_true rfl) d_SF_succeeds_242 (fun v31 D32 => ?_)
                  refine z_iaload (pc := 245) d_SF_succeeds_245 (fun v33 => ?_)
                  refine z_iload (pc := 246) d_SF_succeeds_246 0 rfl ?_
                  refine z_icmp_lt (pc := 248) (tgt := 255) d_SF_succeeds_248 (by decide) ?_ ?_
                  · exact z_sub [] rfl (h255 D32)
                  · refine z_iconst (pc := 251) d_SF_succeeds_251 ki_1 ?_
                    refine z_goto (pc := 252) (tgt := 256) d_SF_succeeds_252 (by decide) ?_
                    exact z_sub [] rfl (h256 (1 : Int32) D32)
          · refine z_case (fun e6 => ?_) (fun e6 => ?_)
            · refine z_tableIn (pc := 43) (tgt := 257) d_SF_succeeds_43 e6 (by decide) (by decide) rfl (by decide) ?_
              refine z_jp (fun j282 : Int32 → zD → Option (Int32 × zD) => ∀ (s0 : Int32) (D34 : zD), zGO K Y_SF_succeeds 7 0 0 (zqI z) (j282 s0 D34) 0 0 z D34 282 [] [.int s0]) (fun s0 D34 => ?_) (fun j282 h282 => ?_)
              · exact z_zret (pc := 282) d_SF_succeeds_282 rfl
              · refine z_jp (fun j281 : zD → Option (Int32 × zD) => ∀ (D35 : zD), zGO K Y_SF_succeeds 7 0 0 (zqI z) (j281  D35) 0 0 z D35 281 [] []) (fun  D35 => ?_) (fun j281 h281 => ?_)
                · refine z_iconst (pc := 281) d_SF_succeeds_281 ki_0 ?_
                  exact z_sub [] rfl (h282 (0 : Int32) D35)
                · refine z_iload_n (pc := 257) d_SF_succeeds_257 rfl 4 rfl ?_
                  refine z_if_ne (pc := 258) (tgt := 281) d_SF_succeeds_258 (by decide) ?_ ?_
                  · refine z_iload_n (pc := 261) d_SF_succeeds_261 rfl 3 rfl ?_
                    refine z_if_ne (pc := 262) (tgt := 281) d_SF_succeeds_262 (by decide) ?_ ?_
                    · refine z_aload_n (pc := 265) d_SF_succeeds_265 rfl 5 rfl ?_
                      refine z_getR (pc := 266) fl_SF_144 d_SF_succeeds_266 (fun p36 => ?_)
                      refine z_getI (pc := 269) fl_SF_148 d_SF_succeeds_269 (fun v37 => ?_)
                      refine z_iload (pc := 272) d_SF_succeeds_272 0 rfl ?_
                      refine z_icmp_gt (pc := 274) (tgt := 281) d_SF_succeeds_274 (by decide) ?_ ?_
                      · exact z_sub [] rfl (h281 D)
                      · refine z_iconst (pc := 277) d_SF_succeeds_277 ki_1 ?_
                        refine z_goto (pc := 278) (tgt := 282) d_SF_succeeds_278 (by decide) ?_
                        exact z_sub [] rfl (h282 (1 : Int32) D)
                    · exact z_sub [] rfl (h281 D)
                  · exact z_sub [] rfl (h281 D)
            · refine z_case (fun e7 => ?_) (fun e7 => ?_)
              · refine z_tableIn (pc := 43) (tgt := 283) d_SF_succeeds_43 e7 (by decide) (by decide) rfl (by decide) ?_
                refine z_jp (fun j317 : Int32 → zD → Option (Int32 × zD) => ∀ (s0 : Int32) (D38 : zD), zGO K Y_SF_succeeds 7 0 0 (zqI z) (j317 s0 D38) 0 0 z D38 317 [] [.int s0]) (fun s0 D38 => ?_) (fun j317 h317 => ?_)
                · exact z_zret (pc := 317) d_SF_succeeds_317 rfl
                · refine z_jp (fun j316 : zD → Option (Int32 × zD) => ∀ (D39 : zD), zGO K Y_SF_succeeds 7 0 0 (zqI z) (j316  D39) 0 0 z D39 316 [] []) (fun  D39 => ?_) (fun j316 h316 => ?_)
                  · refine z_iconst (pc := 316) d_SF_succeeds_316 ki_0 ?_
                    exact z_sub [] rfl (h317 (0 : Int32) D39)
                  · refine z_iload_n (pc := 283) d_SF_succeeds_283 rfl 3 rfl ?_
                    refine z_if_ne (pc := 284) (tgt := 316) d_SF_succeeds_284 (by decide) ?_ ?_
                    · refine z_aload_n (pc := 287) d_SF_succeeds_287 rfl 5 rfl ?_
                      refine z_getR (pc := 288) fl_SF_107 d_SF_succeeds_288 (fun p40 => ?_)
                      refine z_iload_n (pc := 291) d_SF_succeeds_291 rfl 4 rfl ?_
                      refine z_callVi (pc := 292) [.int v1] lkV_SF_216 rfl (c_Hearers_has z D p40 v1) (by decide) rfl rfl (Nat.le_of_ble_eq_true rfl) d_SF_succeeds_292 (fun v41 D42 => ?_)
                      refine z_if_eq (pc := 295) (tgt := 316) d_SF_succeeds_295 (by decide) ?_ ?_
                      · exact z_sub [] rfl (h316 D42)
                      · refine z_aload_n (pc := 298) d_SF_succeeds_298 rfl 5 rfl ?_
                        refine z_getR (pc := 299) fl_SF_107 d_SF_succeeds_299 (fun p43 => ?_)
                        refine z_getR (pc := 302) fl_SF_227 d_SF_succeeds_302 (fun p44 => ?_)
                        refine z_iload_n (pc := 305) d_SF_succeeds_305 rfl 4 rfl ?_
                        refine z_iaload (pc := 306) d_SF_succeeds_306 (fun v45 => ?_)
                        refine z_iload (pc := 307) d_SF_succeeds_307 0 rfl ?_
                        refine z_icmp_lt (pc := 309) (tgt := 316) d_SF_succeeds_309 (by decide) ?_ ?_
                        · exact z_sub [] rfl (h316 D42)
                        · refine z_iconst (pc := 312) d_SF_succeeds_312 ki_1 ?_
                          refine z_goto (pc := 313) (tgt := 317) d_SF_succeeds_313 (by decide) ?_
                          exact z_sub [] rfl (h317 (1 : Int32) D42)
                    · exact z_sub [] rfl (h316 D)
              · refine z_case (fun e8 => ?_) (fun e8 => ?_)
                · refine z_tableIn (pc := 43) (tgt := 318) d_SF_succeeds_43 e8 (by decide) (by decide) rfl (by decide) ?_
                  refine z_jp (fun j352 : Int32 → zD → Option (Int32 × zD) => ∀ (s0 : Int32) (D46 : zD), zGO K Y_SF_succeeds 7 0 0 (zqI z) (j352 s0 D46) 0 0 z D46 352 [] [.int s0]) (fun s0 D46 => ?_) (fun j352 h352 => ?_)
                  · exact z_zret (pc := 352) d_SF_succeeds_352 rfl
                  · refine z_jp (fun j351 : zD → Option (Int32 × zD) => ∀ (D47 : zD), zGO K Y_SF_succeeds 7 0 0 (zqI z) (j351  D47) 0 0 z D47 351 [] []) (fun  D47 => ?_) (fun j351 h351 => ?_)
                    · refine z_iconst (pc := 351) d_SF_succeeds_351 ki_0 ?_
                      exact z_sub [] rfl (h352 (0 : Int32) D47)
                    · refine z_iload_n (pc := 318) d_SF_succeeds_318 rfl 3 rfl ?_
                      refine z_if_ne (pc := 319) (tgt := 351) d_SF_succeeds_319 (by decide) ?_ ?_
                      · refine z_aload_n (pc := 322) d_SF_succeeds_322 rfl 5 rfl ?_
                        refine z_getR (pc := 323) fl_SF_98 d_SF_succeeds_323 (fun p48 => ?_)
                        refine z_iload_n (pc := 326) d_SF_succeeds_326 rfl 4 rfl ?_
                        refine z_callVi (pc := 327) [.int v1] lkV_SF_174 rfl (c_Sirens_has z D p48 v1) (by decide) rfl rfl (Nat.le_of_ble_eq_true rfl) d_SF_succeeds_327 (fun v49 D50 => ?_)
                        refine z_if_eq (pc := 330) (tgt := 351) d_SF_succeeds_330 (by decide) ?_ ?_
                        · exact z_sub [] rfl (h351 D50)
                        · refine z_aload_n (pc := 333) d_SF_succeeds_333 rfl 5 rfl ?_
                          refine z_getR (pc := 334) fl_SF_98 d_SF_succeeds_334 (fun p51 => ?_)
                          refine z_getR (pc := 337) fl_SF_201 d_SF_succeeds_337 (fun p52 => ?_)
                          refine z_iload_n (pc := 340) d_SF_succeeds_340 rfl 4 rfl ?_
                          refine z_iaload (pc := 341) d_SF_succeeds_341 (fun v53 => ?_)
                          refine z_iload (pc := 342) d_SF_succeeds_342 0 rfl ?_
                          refine z_icmp_ne (pc := 344) (tgt := 351) d_SF_succeeds_344 (by decide) ?_ ?_
                          · refine z_iconst (pc := 347) d_SF_succeeds_347 ki_1 ?_
                            refine z_goto (pc := 348) (tgt := 352) d_SF_succeeds_348 (by decide) ?_
                            exact z_sub [] rfl (h352 (1 : Int32) D50)
                          · exact z_sub [] rfl (h351 D50)
                      · exact z_sub [] rfl (h351 D)
                · refine z_case (fun e9 => ?_) (fun e9 => ?_)
                  · refine z_tableIn (pc := 43) (tgt := 353) d_SF_succeeds_43 e9 (by decide) (by decide) rfl (by decide) ?_
                    refine z_jp (fun j383 : Int32 → zD → Option (Int32 × zD) => ∀ (s0 : Int32) (D54 : zD), zGO K Y_SF_succeeds 7 0 0 (zqI z) (j383 s0 D54) 0 0 z D54 383 [] [.int s0]) (fun s0 D54 => ?_) (fun j383 h383 => ?_)
                    · exact z_zret (pc := 383) d_SF_succeeds_383 rfl
                    · refine z_jp (fun j382 : zD → Option (Int32 × zD) => ∀ (D55 : zD), zGO K Y_SF_succeeds 7 0 0 (zqI z) (j382  D55) 0 0 z D55 382 [] []) (fun  D55 => ?_) (fun j382 h382 => ?_)
                      · refine z_iconst (pc := 382) d_SF_succeeds_382 ki_0 ?_
                        exact z_sub [] rfl (h383 (0 : Int32) D55)
                      · refine z_iload (pc := 353) d_SF_succeeds_353 2 rfl ?_
                        refine z_if_ne (pc := 355) (tgt := 382) d_SF_succeeds_355 (by decide) ?_ ?_
                        · refine z_aload_n (pc := 358) d_SF_succeeds_358 rfl 5 rfl ?_
                          refine z_iload_n (pc := 359) d_SF_succeeds_359 rfl 4 rfl ?_
                          refine z_iload_n (pc := 360) d_SF_succeeds_360 rfl 3 rfl ?_
                          refine z_callVi (pc := 361) [.int v1, .int v2] lkV_SF_265 rfl (c_Field_hasPair z D r0 v1 v2) (by decide) rfl rfl (Nat.le_of_ble_eq_true rfl) d_SF_succeeds_361 (fun v56 D57 => ?_)
                          refine z_if_eq (pc := 364) (tgt := 382) d_SF_succeeds_364 (by decide) ?_ ?_
                          · exact z_sub [] rfl (h382 D57)
                          · refine z_aload_n (pc := 367) d_SF_succeeds_367 rfl 5 rfl ?_
                            refine z_iload_n (pc := 368) d_SF_succeeds_368 rfl 4 rfl ?_
                            refine z_iload_n (pc := 369) d_SF_succeeds_369 rfl 3 rfl ?_
                            refine z_callVi (pc := 370) [.int v1, .int v2] lkV_SF_289 rfl (c_Field_soundOf z D57 r0 v1 v2) (by decide) rfl rfl (Nat.le_of_ble_eq_true rfl) d_SF_succeeds_370 (fun v58 D59 => ?_)
                            refine z_iload (pc := 373) d_SF_succeeds_373 1 rfl ?_
                            refine z_icmp_ne (pc := 375) (tgt := 382) d_SF_succeeds_375 (by decide) ?_ ?_
                            · refine z_iconst (pc := 378) d_SF_succeeds_378 ki_1 ?_
                              refine z_goto (pc := 379) (tgt := 383) d_SF_succeeds_379 (by decide) ?_
                              exact z_sub [] rfl (h383 (1 : Int32) D59)
                            · exact z_sub [] rfl (h382 D59)
                        · exact z_sub [] rfl (h382 D)
                  · refine z_tableOut (pc := 43) (tgt := 384) d_SF_succeeds_43 (by have g1 := z_neI e1 (n := 1) rfl; have g2 := z_neI e2 (n := 2) rfl; have g3 := z_neI e3 (n := 3) rfl; have g4 := z_neI e4 (n := 4) rfl; have g5 := z_neI e5 (n := 5) rfl; have g6 := z_neI e6 (n := 6) rfl; have g7 := z_neI e7 (n := 7) rfl; have g8 := z_neI e8 (n := 8) rfl; have g9 := z_neI e9 (n := 9) rfl; omega) (by decide) ?_
                    refine z_iconst (pc := 384) d_SF_succeeds_384 ki_0 ?_
                    exact z_zretK (pc := 385) d_SF_succeeds_385 rfl (by decide)
theorem d_SF_takeTurn_0 : decode Y_SF_takeTurn.2.1 0 = .ok (.iload_n 1, 1) := by decide +kernel
theorem d_SF_takeTurn_1 : decode Y_SF_takeTurn.2.1 1 = .ok (.bipush (8), 2) := by decide +kernel
theorem d_SF_takeTurn_3 : decode Y_SF_takeTurn.2.1 3 = .ok (.idiv, 1) := by decide +kernel
theorem d_SF_takeTurn_4 : decode Y_SF_takeTurn.2.1 4 = .ok (.istore_n 2, 1) := by decide +kernel
theorem d_SF_takeTurn_5 : decode Y_SF_takeTurn.2.1 5 = .ok (.iload_n 1, 1) := by decide +kernel
theorem d_SF_takeTurn_6 : decode Y_SF_takeTurn.2.1 6 = .ok (.bipush (8), 2) := by decide +kernel
theorem d_SF_takeTurn_8 : decode Y_SF_takeTurn.2.1 8 = .ok (.irem, 1) := by decide +kernel
theorem d_SF_takeTurn_9 : decode Y_SF_takeTurn.2.1 9 = .ok (.tableswitch (212) 0 4 #[(35), (92), (139), (171), (199)], 35) := by decide +kernel
theorem d_SF_takeTurn_44 : decode Y_SF_takeTurn.2.1 44 = .ok (.aload_n 0, 1) := by decide +kernel
theorem d_SF_takeTurn_45 : decode Y_SF_takeTurn.2.1 45 = .ok (.getfield 98, 3) := by decide +kernel
theorem d_SF_takeTurn_48 : decode Y_SF_takeTurn.2.1 48 = .ok (.iload_n 2, 1) := by decide +kernel
theorem d_SF_takeTurn_49 : decode Y_SF_takeTurn.2.1 49 = .ok (.bipush (61), 2) := by decide +kernel
theorem d_SF_takeTurn_51 : decode Y_SF_takeTurn.2.1 51 = .ok (.irem, 1) := by decide +kernel
theorem d_SF_takeTurn_52 : decode Y_SF_takeTurn.2.1 52 = .ok (.bipush (30), 2) := by decide +kernel
theorem d_SF_takeTurn_54 : decode Y_SF_takeTurn.2.1 54 = .ok (.isub, 1) := by decide +kernel
theorem d_SF_takeTurn_55 : decode Y_SF_takeTurn.2.1 55 = .ok (.iload_n 2, 1) := by decide +kernel
theorem d_SF_takeTurn_56 : decode Y_SF_takeTurn.2.1 56 = .ok (.bipush (64), 2) := by decide +kernel
theorem d_SF_takeTurn_58 : decode Y_SF_takeTurn.2.1 58 = .ok (.idiv, 1) := by decide +kernel
theorem d_SF_takeTurn_59 : decode Y_SF_takeTurn.2.1 59 = .ok (.bipush (61), 2) := by decide +kernel
theorem d_SF_takeTurn_61 : decode Y_SF_takeTurn.2.1 61 = .ok (.irem, 1) := by decide +kernel
theorem d_SF_takeTurn_62 : decode Y_SF_takeTurn.2.1 62 = .ok (.bipush (30), 2) := by decide +kernel
theorem d_SF_takeTurn_64 : decode Y_SF_takeTurn.2.1 64 = .ok (.isub, 1) := by decide +kernel
theorem d_SF_takeTurn_65 : decode Y_SF_takeTurn.2.1 65 = .ok (.iconst (1), 1) := by decide +kernel
theorem d_SF_takeTurn_66 : decode Y_SF_takeTurn.2.1 66 = .ok (.iload_n 2, 1) := by decide +kernel
theorem d_SF_takeTurn_67 : decode Y_SF_takeTurn.2.1 67 = .ok (.sipush (4096), 3) := by decide +kernel
theorem d_SF_takeTurn_70 : decode Y_SF_takeTurn.2.1 70 = .ok (.idiv, 1) := by decide +kernel
theorem d_SF_takeTurn_71 : decode Y_SF_takeTurn.2.1 71 = .ok (.iconst (5), 1) := by decide +kernel
theorem d_SF_takeTurn_72 : decode Y_SF_takeTurn.2.1 72 = .ok (.irem, 1) := by decide +kernel
theorem d_SF_takeTurn_73 : decode Y_SF_takeTurn.2.1 73 = .ok (.iadd, 1) := by decide +kernel
theorem d_SF_takeTurn_74 : decode Y_SF_takeTurn.2.1 74 = .ok (.iload_n 2, 1) := by decide +kernel
theorem d_SF_takeTurn_75 : decode Y_SF_takeTurn.2.1 75 = .ok (.ldc_w 373, 3) := by decide +kernel
theorem d_SF_takeTurn_78 : decode Y_SF_takeTurn.2.1 78 = .ok (.idiv, 1) := by decide +kernel
theorem d_SF_takeTurn_79 : decode Y_SF_takeTurn.2.1 79 = .ok (.bipush (7), 2) := by decide +kernel
theorem d_SF_takeTurn_81 : decode Y_SF_takeTurn.2.1 81 = .ok (.irem, 1) := by decide +kernel
theorem d_SF_takeTurn_82 : decode Y_SF_takeTurn.2.1 82 = .ok (.iconst (3), 1) := by decide +kernel
theorem d_SF_takeTurn_83 : decode Y_SF_takeTurn.2.1 83 = .ok (.isub, 1) := by decide +kernel
theorem d_SF_takeTurn_84 : decode Y_SF_takeTurn.2.1 84 = .ok (.iconst (1), 1) := by decide +kernel
theorem d_SF_takeTurn_85 : decode Y_SF_takeTurn.2.1 85 = .ok (.iload_n 2, 1) := by decide +kernel
theorem d_SF_takeTurn_86 : decode Y_SF_takeTurn.2.1 86 = .ok (.ldc_w 374, 3) := by decide +kernel
theorem d_SF_takeTurn_89 : decode Y_SF_takeTurn.2.1 89 = .ok (.idiv, 1) := by decide +kernel
theorem d_SF_takeTurn_90 : decode Y_SF_takeTurn.2.1 90 = .ok (.bipush (20), 2) := by decide +kernel
theorem d_SF_takeTurn_92 : decode Y_SF_takeTurn.2.1 92 = .ok (.irem, 1) := by decide +kernel
theorem d_SF_takeTurn_93 : decode Y_SF_takeTurn.2.1 93 = .ok (.iadd, 1) := by decide +kernel
theorem d_SF_takeTurn_94 : decode Y_SF_takeTurn.2.1 94 = .ok (.invokevirtual 102, 3) := by decide +kernel
theorem d_SF_takeTurn_97 : decode Y_SF_takeTurn.2.1 97 = .ok (.pop, 1) := by decide +kernel
theorem d_SF_takeTurn_98 : decode Y_SF_takeTurn.2.1 98 = .ok (.goto (133), 3) := by decide +kernel
theorem d_SF_takeTurn_101 : decode Y_SF_takeTurn.2.1 101 = .ok (.aload_n 0, 1) := by decide +kernel
theorem d_SF_takeTurn_102 : decode Y_SF_takeTurn.2.1 102 = .ok (.getfield 107, 3) := by decide +kernel
theorem d_SF_takeTurn_105 : decode Y_SF_takeTurn.2.1 105 = .ok (.iload_n 2, 1) := by decide +kernel
theorem d_SF_takeTurn_106 : decode Y_SF_takeTurn.2.1 106 = .ok (.bipush (81), 2) := by decide +kernel
theorem d_SF_takeTurn_108 : decode Y_SF_takeTurn.2.1 108 = .ok (.irem, 1) := by decide +kernel
theorem d_SF_takeTurn_109 : decode Y_SF_takeTurn.2.1 109 = .ok (.bipush (40), 2) := by decide +kernel
theorem d_SF_takeTurn_111 : decode Y_SF_takeTurn.2.1 111 = .ok (.isub, 1) := by decide +kernel
theorem d_SF_takeTurn_112 : decode Y_SF_takeTurn.2.1 112 = .ok (.iload_n 2, 1) := by decide +kernel
theorem d_SF_takeTurn_113 : decode Y_SF_takeTurn.2.1 113 = .ok (.sipush (128), 3) := by decide +kernel
theorem d_SF_takeTurn_116 : decode Y_SF_takeTurn.2.1 116 = .ok (.idiv, 1) := by decide +kernel
theorem d_SF_takeTurn_117 : decode Y_SF_takeTurn.2.1 117 = .ok (.bipush (81), 2) := by decide +kernel
theorem d_SF_takeTurn_119 : decode Y_SF_takeTurn.2.1 119 = .ok (.irem, 1) := by decide +kernel
theorem d_SF_takeTurn_120 : decode Y_SF_takeTurn.2.1 120 = .ok (.bipush (40), 2) := by decide +kernel
theorem d_SF_takeTurn_122 : decode Y_SF_takeTurn.2.1 122 = .ok (.isub, 1) := by decide +kernel
theorem d_SF_takeTurn_123 : decode Y_SF_takeTurn.2.1 123 = .ok (.iload_n 2, 1) := by decide +kernel
theorem d_SF_takeTurn_124 : decode Y_SF_takeTurn.2.1 124 = .ok (.sipush (16384), 3) := by decide +kernel
theorem d_SF_takeTurn_127 : decode Y_SF_takeTurn.2.1 127 = .ok (.idiv, 1) := by decide +kernel
theorem d_SF_takeTurn_128 : decode Y_SF_takeTurn.2.1 128 = .ok (.iconst (5), 1) := by decide +kernel
theorem d_SF_takeTurn_129 : decode Y_SF_takeTurn.2.1 129 = .ok (.irem, 1) := by decide +kernel
theorem d_SF_takeTurn_130 : decode Y_SF_takeTurn.2.1 130 = .ok (.iconst (2), 1) := by decide +kernel
theorem d_SF_takeTurn_131 : decode Y_SF_takeTurn.2.1 131 = .ok (.isub, 1) := by decide +kernel
theorem d_SF_takeTurn_132 : decode Y_SF_takeTurn.2.1 132 = .ok (.iload_n 2, 1) := by decide +kernel
theorem d_SF_takeTurn_133 : decode Y_SF_takeTurn.2.1 133 = .ok (.ldc_w 375, 3) := by decide +kernel
theorem d_SF_takeTurn_136 : decode Y_SF_takeTurn.2.1 136 = .ok (.idiv, 1) := by decide +kernel
theorem d_SF_takeTurn_137 : decode Y_SF_takeTurn.2.1 137 = .ok (.iconst (5), 1) := by decide +kernel
theorem d_SF_takeTurn_138 : decode Y_SF_takeTurn.2.1 138 = .ok (.irem, 1) := by decide +kernel
theorem d_SF_takeTurn_139 : decode Y_SF_takeTurn.2.1 139 = .ok (.iconst (2), 1) := by decide +kernel
theorem d_SF_takeTurn_140 : decode Y_SF_takeTurn.2.1 140 = .ok (.isub, 1) := by decide +kernel
theorem d_SF_takeTurn_141 : decode Y_SF_takeTurn.2.1 141 = .ok (.invokevirtual 111, 3) := by decide +kernel
theorem d_SF_takeTurn_144 : decode Y_SF_takeTurn.2.1 144 = .ok (.pop, 1) := by decide +kernel
theorem d_SF_takeTurn_145 : decode Y_SF_takeTurn.2.1 145 = .ok (.goto (86), 3) := by decide +kernel
theorem d_SF_takeTurn_148 : decode Y_SF_takeTurn.2.1 148 = .ok (.aload_n 0, 1) := by decide +kernel
theorem d_SF_takeTurn_149 : decode Y_SF_takeTurn.2.1 149 = .ok (.getfield 116, 3) := by decide +kernel
theorem d_SF_takeTurn_152 : decode Y_SF_takeTurn.2.1 152 = .ok (.iload_n 2, 1) := by decide +kernel
theorem d_SF_takeTurn_153 : decode Y_SF_takeTurn.2.1 153 = .ok (.iconst (2), 1) := by decide +kernel
theorem d_SF_takeTurn_154 : decode Y_SF_takeTurn.2.1 154 = .ok (.irem, 1) := by decide +kernel
theorem d_SF_takeTurn_155 : decode Y_SF_takeTurn.2.1 155 = .ok (.iconst (1), 1) := by decide +kernel
theorem d_SF_takeTurn_156 : decode Y_SF_takeTurn.2.1 156 = .ok (.if_icmp .ne (7), 3) := by decide +kernel
theorem d_SF_takeTurn_159 : decode Y_SF_takeTurn.2.1 159 = .ok (.iconst (1), 1) := by decide +kernel
theorem d_SF_takeTurn_160 : decode Y_SF_takeTurn.2.1 160 = .ok (.goto (4), 3) := by decide +kernel
theorem d_SF_takeTurn_163 : decode Y_SF_takeTurn.2.1 163 = .ok (.iconst (0), 1) := by decide +kernel
theorem d_SF_takeTurn_164 : decode Y_SF_takeTurn.2.1 164 = .ok (.iload_n 2, 1) := by decide +kernel
theorem d_SF_takeTurn_165 : decode Y_SF_takeTurn.2.1 165 = .ok (.iconst (2), 1) := by decide +kernel
theorem d_SF_takeTurn_166 : decode Y_SF_takeTurn.2.1 166 = .ok (.idiv, 1) := by decide +kernel
theorem d_SF_takeTurn_167 : decode Y_SF_takeTurn.2.1 167 = .ok (.bipush (81), 2) := by decide +kernel
theorem d_SF_takeTurn_169 : decode Y_SF_takeTurn.2.1 169 = .ok (.irem, 1) := by decide +kernel
theorem d_SF_takeTurn_170 : decode Y_SF_takeTurn.2.1 170 = .ok (.bipush (40), 2) := by decide +kernel
theorem d_SF_takeTurn_172 : decode Y_SF_takeTurn.2.1 172 = .ok (.isub, 1) := by decide +kernel
theorem d_SF_takeTurn_173 : decode Y_SF_takeTurn.2.1 173 = .ok (.invokevirtual 120, 3) := by decide +kernel
theorem d_SF_takeTurn_176 : decode Y_SF_takeTurn.2.1 176 = .ok (.pop, 1) := by decide +kernel
theorem d_SF_takeTurn_177 : decode Y_SF_takeTurn.2.1 177 = .ok (.goto (54), 3) := by decide +kernel
theorem d_SF_takeTurn_180 : decode Y_SF_takeTurn.2.1 180 = .ok (.aload_n 0, 1) := by decide +kernel
theorem d_SF_takeTurn_181 : decode Y_SF_takeTurn.2.1 181 = .ok (.getfield 98, 3) := by decide +kernel
theorem d_SF_takeTurn_184 : decode Y_SF_takeTurn.2.1 184 = .ok (.iload_n 2, 1) := by decide +kernel
theorem d_SF_takeTurn_185 : decode Y_SF_takeTurn.2.1 185 = .ok (.iconst (4), 1) := by decide +kernel
theorem d_SF_takeTurn_186 : decode Y_SF_takeTurn.2.1 186 = .ok (.irem, 1) := by decide +kernel
theorem d_SF_takeTurn_187 : decode Y_SF_takeTurn.2.1 187 = .ok (.iload_n 2, 1) := by decide +kernel
theorem d_SF_takeTurn_188 : decode Y_SF_takeTurn.2.1 188 = .ok (.iconst (4), 1) := by decide +kernel
theorem d_SF_takeTurn_189 : decode Y_SF_takeTurn.2.1 189 = .ok (.idiv, 1) := by decide +kernel
theorem d_SF_takeTurn_190 : decode Y_SF_takeTurn.2.1 190 = .ok (.iconst (2), 1) := by decide +kernel
theorem d_SF_takeTurn_191 : decode Y_SF_takeTurn.2.1 191 = .ok (.irem, 1) := by decide +kernel
theorem d_SF_takeTurn_192 : decode Y_SF_takeTurn.2.1 192 = .ok (.iconst (1), 1) := by decide +kernel
theorem d_SF_takeTurn_193 : decode Y_SF_takeTurn.2.1 193 = .ok (.if_icmp .ne (7), 3) := by decide +kernel
theorem d_SF_takeTurn_196 : decode Y_SF_takeTurn.2.1 196 = .ok (.iconst (1), 1) := by decide +kernel
theorem d_SF_takeTurn_197 : decode Y_SF_takeTurn.2.1 197 = .ok (.goto (4), 3) := by decide +kernel
theorem d_SF_takeTurn_200 : decode Y_SF_takeTurn.2.1 200 = .ok (.iconst (0), 1) := by decide +kernel
theorem d_SF_takeTurn_201 : decode Y_SF_takeTurn.2.1 201 = .ok (.invokevirtual 125, 3) := by decide +kernel
theorem d_SF_takeTurn_204 : decode Y_SF_takeTurn.2.1 204 = .ok (.pop, 1) := by decide +kernel
theorem d_SF_takeTurn_205 : decode Y_SF_takeTurn.2.1 205 = .ok (.goto (26), 3) := by decide +kernel
theorem d_SF_takeTurn_208 : decode Y_SF_takeTurn.2.1 208 = .ok (.aload_n 0, 1) := by decide +kernel
theorem d_SF_takeTurn_209 : decode Y_SF_takeTurn.2.1 209 = .ok (.iconst (1), 1) := by decide +kernel
theorem d_SF_takeTurn_210 : decode Y_SF_takeTurn.2.1 210 = .ok (.iload_n 2, 1) := by decide +kernel
theorem d_SF_takeTurn_211 : decode Y_SF_takeTurn.2.1 211 = .ok (.bipush (9), 2) := by decide +kernel
theorem d_SF_takeTurn_213 : decode Y_SF_takeTurn.2.1 213 = .ok (.irem, 1) := by decide +kernel
theorem d_SF_takeTurn_214 : decode Y_SF_takeTurn.2.1 214 = .ok (.iadd, 1) := by decide +kernel
theorem d_SF_takeTurn_215 : decode Y_SF_takeTurn.2.1 215 = .ok (.putfield 129, 3) := by decide +kernel
theorem d_SF_takeTurn_218 : decode Y_SF_takeTurn.2.1 218 = .ok (.goto (13), 3) := by decide +kernel
theorem d_SF_takeTurn_221 : decode Y_SF_takeTurn.2.1 221 = .ok (.aload_n 0, 1) := by decide +kernel
theorem d_SF_takeTurn_222 : decode Y_SF_takeTurn.2.1 222 = .ok (.iconst (1), 1) := by decide +kernel
theorem d_SF_takeTurn_223 : decode Y_SF_takeTurn.2.1 223 = .ok (.iload_n 2, 1) := by decide +kernel
theorem d_SF_takeTurn_224 : decode Y_SF_takeTurn.2.1 224 = .ok (.bipush (12), 2) := by decide +kernel
theorem d_SF_takeTurn_226 : decode Y_SF_takeTurn.2.1 226 = .ok (.irem, 1) := by decide +kernel
theorem d_SF_takeTurn_227 : decode Y_SF_takeTurn.2.1 227 = .ok (.iadd, 1) := by decide +kernel
theorem d_SF_takeTurn_228 : decode Y_SF_takeTurn.2.1 228 = .ok (.invokevirtual 132, 3) := by decide +kernel
theorem d_SF_takeTurn_231 : decode Y_SF_takeTurn.2.1 231 = .ok (.return_, 1) := by decide +kernel
def f_SF_takeTurn (w : zW) (D : zD) (r0 : Nat) (x1 : Int32) : Option (zD) := zjp (fun (D1 : zD) => some D1) (fun j231 => zlet (x1 / (8 : Int32)) (fun v2 => zlet (zirem x1 (8 : Int32)) (fun v3 => (if v3 = (0 : Int32) then zref w 3 0 r0 (fun p4 => zobj w 6 p4 (zci (f_Sirens_add w D p4 ((zirem v2 (61 : Int32)) - (30 : Int32)) ((zirem (v2 / (64 : Int32)) (61 : Int32)) - (30 : Int32)) ((1 : Int32) + (zirem (v2 / (4096 : Int32)) (5 : Int32))) ((zirem (v2 / (32768 : Int32)) (7 : Int32)) - (3 : Int32)) ((1 : Int32) + (zirem (v2 / (262144 : Int32)) (20 : Int32)))) (fun v5 D6 => j231 D6))) else (if v3 = (1 : Int32) then zref w 3 1 r0 (fun p7 => zobj w 4 p7 (zci (f_Hearers_add w D p7 ((zirem v2 (81 : Int32)) - (40 : Int32)) ((zirem (v2 / (128 : Int32)) (81 : Int32)) - (40 : Int32)) ((zirem (v2 / (16384 : Int32)) (5 : Int32)) - (2 : Int32)) ((zirem (v2 / (131072 : Int32)) (5 : Int32)) - (2 : Int32))) (fun v8 D9 => j231 D9))) else (if v3 = (2 : Int32) then zjp (fun (x2 : Int32) (s0 : Nat) (s1 : Int32) (D10 : zD) => zobj w 7 s0 (zci (f_Walls_add w D10 s0 s1 ((zirem (x2 / (2 : Int32)) (81 : Int32)) - (40 : Int32))) (fun v11 D12 => j231 D12))) (fun j164 => zref w 3 2 r0 (fun p13 => (if (zirem v2 (2 : Int32)) = (1 : Int32) then j164 v2 p13 (1 : Int32) D else j164 v2 p13 (0 : Int32) D))) else (if v3 = (3 : Int32) then zjp (fun (s0 : Nat) (s1 : Int32) (s2 : Int32) (D14 : zD) => zobj w 6 s0 (zci (f_Sirens_turnTo w D14 s0 s1 s2) (fun v15 D16 => j231 D16))) (fun j201 => zref w 3 0 r0 (fun p17 => (if (zirem (v2 / (4 : Int32)) (2 : Int32)) = (1 : Int32) then j201 p17 (zirem v2 (4 : Int32)) (1 : Int32) D else j201 p17 (zirem v2 (4 : Int32)) (0 : Int32) D))) else (if v3 = (4 : Int32) then zput w D 3 7 r0 ((1 : Int32) + (zirem v2 (9 : Int32))) (fun D18 => j231 D18) else zobj w 3 r0 (zcv (f_Field_pass w D r0 ((1 : Int32) + (zirem v2 (12 : Int32)))) (fun D19 => j231 D19))))))))))
set_option maxHeartbeats 4000000 in
set_option maxRecDepth 100000 in
theorem c_SF_takeTurn (z : zT) (D : zD) (r0 : Nat) (x1 : Int32) : zM Y_SF_takeTurn 7 0 0 (zqV z) (f_SF_takeTurn z.2 D r0 x1) [.ref r0, .int x1] z D := by
  refine zM_of (plainFor_of_name (by decide +kernel)) rfl (Nat.le_of_ble_eq_true rfl) (fun _ _ _ _ h => nomatch h.1) (fun K => ?_)
  unfold f_SF_takeTurn
  refine z_jp (fun j231 : zD → Option (zD) => ∀ (D1 : zD), zGO K Y_SF_takeTurn 7 0 0 (zqV z) (j231  D1) 0 0 z D1 231 [] []) (fun  D1 => ?_) (fun j231 h231 => ?_)
  · exact z_vret (pc := 231) d_SF_takeTurn_231 rfl
  · refine z_iload_n (pc := 0) d_SF_takeTurn_0 rfl 1 rfl ?_
    refine z_bipush (pc := 1) d_SF_takeTurn_1 kb_8 ?_
    refine z_idivK (pc := 3) d_SF_takeTurn_3 (by decide) ?_
    refine z_leti (fun v2 => ?_)
    refine z_istore_n (pc := 4) d_SF_takeTurn_4 rfl (by decide) (lv' := [(2, .int v2), (0, .ref r0), (1, .int x1)]) rfl ?_
    refine z_iload_n (pc := 5) d_SF_takeTurn_5 rfl 2 rfl ?_
    refine z_bipush (pc := 6) d_SF_takeTurn_6 kb_8 ?_
    refine z_iremK (pc := 8) d_SF_takeTurn_8 (by decide) ?_
    refine z_leti (fun v3 => ?_)
    refine z_case (fun e0 => ?_) (fun e0 => ?_)
    · refine z_tableIn (pc := 9) (tgt := 44) d_SF_takeTurn_9 e0 (by decide) (by decide) rfl (by decide) ?_
      refine z_aload_n (pc := 44) d_SF_takeTurn_44 rfl 1 rfl ?_
      refine z_getR (pc := 45) fl_SF_98 d_SF_takeTurn_45 (fun p4 => ?_)
      refine z_iload_n (pc := 48) d_SF_takeTurn_48 rfl 0 rfl ?_
      refine z_bipush (pc := 49) d_SF_takeTurn_49 kb_61 ?_
      refine z_iremK (pc := 51) d_SF_takeTurn_51 (by decide) ?_
      refine z_bipush (pc := 52) d_SF_takeTurn_52 kb_30 ?_
      refine z_isub (pc := 54) d_SF_takeTurn_54 ?_
      refine z_iload_n (pc := 55) d_SF_takeTurn_55 rfl 0 rfl ?_
      refine z_bipush (pc := 56) d_SF_takeTurn_56 kb_64 ?_
      refine z_idivK (pc := 58) d_SF_takeTurn_58 (by decide) ?_
      refine z_bipush (pc := 59) d_SF_takeTurn_59 kb_61 ?_
      refine z_iremK (pc := 61) d_SF_takeTurn_61 (by decide) ?_
      refine z_bipush (pc := 62) d_SF_takeTurn_62 kb_30 ?_
      refine z_isub (pc := 64) d_SF_takeTurn_64 ?_
      refine z_iconst (pc := 65) d_SF_takeTurn_65 ki_1 ?_
      refine z_iload_n (pc := 66) d_SF_takeTurn_66 rfl 0 rfl ?_
      refine z_sipush (pc := 67) d_SF_takeTurn_67 ks_4096 ?_
      refine z_idivK (pc := 70) d_SF_takeTurn_70 (by decide) ?_
      refine z_iconst (pc := 71) d_SF_takeTurn_71 ki_5 ?_
      refine z_iremK (pc := 72) d_SF_takeTurn_72 (by decide) ?_
      refine z_iadd (pc := 73) d_SF_takeTurn_73 ?_
      refine z_iload_n (pc := 74) d_SF_takeTurn_74 rfl 0 rfl ?_
      refine z_ldcw (pc := 75) w_k_SF_373 d_SF_takeTurn_75 ?_
      refine z_idivK (pc := 78) d_SF_takeTurn_78 (by decide) ?_
      refine z_bipush (pc := 79) d_SF_takeTurn_79 kb_7 ?_
      refine z_iremK (pc := 81) d_SF_takeTurn_81 (by decide) ?_
      refine z_iconst (pc := 82) d_SF_takeTurn_82 ki_3 ?_
      refine z_isub (pc := 83) d_SF_takeTurn_83 ?_
      refine z_iconst (pc := 84) d_SF_takeTurn_84 ki_1 ?_
      refine z_iload_n (pc := 85) d_SF_takeTurn_85 rfl 0 rfl ?_
      refine z_ldcw (pc := 86) w_k_SF_374 d_SF_takeTurn_86 ?_
      refine z_idivK (pc := 89) d_SF_takeTurn_89 (by decide) ?_
      refine z_bipush (pc := 90) d_SF_takeTurn_90 kb_20 ?_
      refine z_iremK (pc := 92) d_SF_takeTurn_92 (by decide) ?_
      refine z_iadd (pc := 93) d_SF_takeTurn_93 ?_
      refine z_callVi (pc := 94) [.int ((zirem v2 (61 : Int32)) - (30 : Int32)), .int ((zirem (v2 / (64 : Int32)) (61 : Int32)) - (30 : Int32)), .int ((1 : Int32) + (zirem (v2 / (4096 : Int32)) (5 : Int32))), .int ((zirem (v2 / (32768 : Int32)) (7 : Int32)) - (3 : Int32)), .int ((1 : Int32) + (zirem (v2 / (262144 : Int32)) (20 : Int32)))] lkV_SF_102 rfl (c_Sirens_add z D p4 ((zirem v2 (61 : Int32)) - (30 : Int32)) ((zirem (v2 / (64 : Int32)) (61 : Int32)) - (30 : Int32)) ((1 : Int32) + (zirem (v2 / (4096 : Int32)) (5 : Int32))) ((zirem (v2 / (32768 : Int32)) (7 : Int32)) - (3 : Int32)) ((1 : Int32) + (zirem (v2 / (262144 : Int32)) (20 : Int32)))) (by decide) rfl rfl (Nat.le_of_ble_eq_true rfl) d_SF_takeTurn_94 (fun v5 D6 => ?_)
      refine z_pop (pc := 97) d_SF_takeTurn_97 rfl ?_
      refine z_goto (pc := 98) (tgt := 231) d_SF_takeTurn_98 (by decide) ?_
      exact z_sub [] rfl (h231 D6)
    · refine z_case (fun e1 => ?_) (fun e1 => ?_)
      · refine z_tableIn (pc := 9) (tgt := 101) d_SF_takeTurn_9 e1 (by decide) (by decide) rfl (by decide) ?_
        refine z_aload_n (pc := 101) d_SF_takeTurn_101 rfl 1 rfl ?_
        refine z_getR (pc := 102) fl_SF_107 d_SF_takeTurn_102 (fun p7 => ?_)
        refine z_iload_n (pc := 105) d_SF_takeTurn_105 rfl 0 rfl ?_
        refine z_bipush (pc := 106) d_SF_takeTurn_106 kb_81 ?_
        refine z_iremK (pc := 108) d_SF_takeTurn_108 (by decide) ?_
        refine z_bipush (pc := 109) d_SF_takeTurn_109 kb_40 ?_
        refine z_isub (pc := 111) d_SF_takeTurn_111 ?_
        refine z_iload_n (pc := 112) d_SF_takeTurn_112 rfl 0 rfl ?_
        refine z_sipush (pc := 113) d_SF_takeTurn_113 ks_128 ?_
        refine z_idivK (pc := 116) d_SF_takeTurn_116 (by decide) ?_
        refine z_bipush (pc := 117) d_SF_takeTurn_117 kb_81 ?_
        refine z_iremK (pc := 119) d_SF_takeTurn_119 (by decide) ?_
        refine z_bipush (pc := 120) d_SF_takeTurn_120 kb_40 ?_
        refine z_isub (pc := 122) d_SF_takeTurn_122 ?_
        refine z_iload_n (pc := 123) d_SF_takeTurn_123 rfl 0 rfl ?_
        refine z_sipush (pc := 124) d_SF_takeTurn_124 ks_16384 ?_
        refine z_idivK (pc := 127) d_SF_takeTurn_127 (by decide) ?_
        refine z_iconst (pc := 128) d_SF_takeTurn_128 ki_5 ?_
        refine z_iremK (pc := 129) d_SF_takeTurn_129 (by decide) ?_
        refine z_iconst (pc := 130) d_SF_takeTurn_130 ki_2 ?_
        refine z_isub (pc := 131) d_SF_takeTurn_131 ?_
        refine z_iload_n (pc := 132) d_SF_takeTurn_132 rfl 0 rfl ?_
        refine z_ldcw (pc := 133) w_k_SF_375 d_SF_takeTurn_133 ?_
        refine z_idivK (pc := 136) d_SF_takeTurn_136 (by decide) ?_
        refine z_iconst (pc := 137) d_SF_takeTurn_137 ki_5 ?_
        refine z_iremK (pc := 138) d_SF_takeTurn_138 (by decide) ?_
        refine z_iconst (pc := 139) d_SF_takeTurn_139 ki_2 ?_
        refine z_isub (pc := 140) d_SF_takeTurn_140 ?_
        refine z_callVi (pc := 141) [.int ((zirem v2 (81 : Int32)) - (40 : Int32)), .int ((zirem (v2 / (128 : Int32)) (81 : Int32)) - (40 : Int32)), .int ((zirem (v2 / (16384 : Int32)) (5 : Int32)) - (2 : Int32)), .int ((zirem (v2 / (131072 : Int32)) (5 : Int32)) - (2 : Int32))] lkV_SF_111 rfl (c_Hearers_add z D p7 ((zirem v2 (81 : Int32)) - (40 : Int32)) ((zirem (v2 / (128 : Int32)) (81 : Int32)) - (40 : Int32)) ((zirem (v2 / (16384 : Int32)) (5 : Int32)) - (2 : Int32)) ((zirem (v2 / (131072 : Int32)) (5 : Int32)) - (2 : Int32))) (by decide) rfl rfl (Nat.le_of_ble_eq_true rfl) d_SF_takeTurn_141 (fun v8 D9 => ?_)
        refine z_pop (pc := 144) d_SF_takeTurn_144 rfl ?_
        refine z_goto (pc := 145) (tgt := 231) d_SF_takeTurn_145 (by decide) ?_
        exact z_sub [] rfl (h231 D9)
      · refine z_case (fun e2 => ?_) (fun e2 => ?_)
        · refine z_tableIn (pc := 9) (tgt := 148) d_SF_takeTurn_9 e2 (by decide) (by decide) rfl (by decide) ?_
          refine z_jp (fun j164 : Int32 → Nat → Int32 → zD → Option (zD) => ∀ (x2 : Int32) (s0 : Nat) (s1 : Int32) (D10 : zD), zGO K Y_SF_takeTurn 7 0 0 (zqV z) (j164 x2 s0 s1 D10) 0 0 z D10 164 [(2, .int x2)] [.int s1, .ref s0]) (fun x2 s0 s1 D10 => ?_) (fun j164 h164 => ?_)
          · refine z_iload_n (pc := 164) d_SF_takeTurn_164 rfl 0 rfl ?_
            refine z_iconst (pc := 165) d_SF_takeTurn_165 ki_2 ?_
            refine z_idivK (pc := 166) d_SF_takeTurn_166 (by decide) ?_
            refine z_bipush (pc := 167) d_SF_takeTurn_167 kb_81 ?_
            refine z_iremK (pc := 169) d_SF_takeTurn_169 (by decide) ?_
            refine z_bipush (pc := 170) d_SF_takeTurn_170 kb_40 ?_
            refine z_isub (pc := 172) d_SF_takeTurn_172 ?_
            refine z_callVi (pc := 173) [.int s1, .int ((zirem (x2 / (2 : Int32)) (81 : Int32)) - (40 : Int32))] lkV_SF_120 rfl (c_Walls_add z D10 s0 s1 ((zirem (x2 / (2 : Int32)) (81 : Int32)) - (40 : Int32))) (by decide) rfl rfl (Nat.le_of_ble_eq_true rfl) d_SF_takeTurn_173 (fun v11 D12 => ?_)
            refine z_pop (pc := 176) d_SF_takeTurn_176 rfl ?_
            refine z_goto (pc := 177) (tgt := 231) d_SF_takeTurn_177 (by decide) ?_
            exact z_sub [] rfl (h231 D12)
          · refine z_aload_n (pc := 148) d_SF_takeTurn_148 rfl 1 rfl ?_
            refine z_getR (pc := 149) fl_SF_116 d_SF_takeTurn_149 (fun p13 => ?_)
            refine z_iload_n (pc := 152) d_SF_takeTurn_152 rfl 0 rfl ?_
            refine z_iconst (pc := 153) d_SF_takeTurn_153 ki_2 ?_
            refine z_iremK (pc := 154) d_SF_takeTurn_154 (by decide) ?_
            refine z_iconst (pc := 155) d_SF_takeTurn_155 ki_1 ?_
            refine z_icmp_ne (pc := 156) (tgt := 163) d_SF_takeTurn_156 (by decide) ?_ ?_
            · refine z_iconst (pc := 159) d_SF_takeTurn_159 ki_1 ?_
              refine z_goto (pc := 160) (tgt := 164) d_SF_takeTurn_160 (by decide) ?_
              exact z_sub [0] rfl (h164 v2 p13 (1 : Int32) D)
            · refine z_iconst (pc := 163) d_SF_takeTurn_163 ki_0 ?_
              exact z_sub [0] rfl (h164 v2 p13 (0 : Int32) D)
        · refine z_case (fun e3 => ?_) (fun e3 => ?_)
          · refine z_tableIn (pc := 9) (tgt := 180) d_SF_takeTurn_9 e3 (by decide) (by decide) rfl (by decide) ?_
            refine z_jp (fun j201 : Nat → Int32 → Int32 → zD → Option (zD) => ∀ (s0 : Nat) (s1 : Int32) (s2 : Int32) (D14 : zD), zGO K Y_SF_takeTurn 7 0 0 (zqV z) (j201 s0 s1 s2 D14) 0 0 z D14 201 [] [.int s2, .int s1, .ref s0]) (fun s0 s1 s2 D14 => ?_) (fun j201 h201 => ?_)
            · refine z_callVi (pc := 201) [.int s1, .int s2] lkV_SF_125 rfl (c_Sirens_turnTo z D14 s0 s1 s2) (by decide) rfl rfl (Nat.le_of_ble_eq_true rfl) d_SF_takeTurn_201 (fun v15 D16 => ?_)
              refine z_pop (pc := 204) d_SF_takeTurn_204 rfl ?_
              refine z_goto (pc := 205) (tgt := 231) d_SF_takeTurn_205 (by decide) ?_
              exact z_sub [] rfl (h231 D16)
            · refine z_aload_n (pc := 180) d_SF_takeTurn_180 rfl 1 rfl ?_
              refine z_getR (pc := 181) fl_SF_98 d_SF_takeTurn_181 (fun p17 => ?_)
              refine z_iload_n (pc := 184) d_SF_takeTurn_184 rfl 0 rfl ?_
              refine z_iconst (pc := 185) d_SF_takeTurn_185 ki_4 ?_
              refine z_iremK (pc := 186) d_SF_takeTurn_186 (by decide) ?_
              refine z_iload_n (pc := 187) d_SF_takeTurn_187 rfl 0 rfl ?_
              refine z_iconst (pc := 188) d_SF_takeTurn_188 ki_4 ?_
              refine z_idivK (pc := 189) d_SF_takeTurn_189 (by decide) ?_
              refine z_iconst (pc := 190) d_SF_takeTurn_190 ki_2 ?_
              refine z_iremK (pc := 191) d_SF_takeTurn_191 (by decide) ?_
              refine z_iconst (pc := 192) d_SF_takeTurn_192 ki_1 ?_
              refine z_icmp_ne (pc := 193) (tgt := 200) d_SF_takeTurn_193 (by decide) ?_ ?_
              · refine z_iconst (pc := 196) d_SF_takeTurn_196 ki_1 ?_
                refine z_goto (pc := 197) (tgt := 201) d_SF_takeTurn_197 (by decide) ?_
                exact z_sub [] rfl (h201 p17 (zirem v2 (4 : Int32)) (1 : Int32) D)
              · refine z_iconst (pc := 200) d_SF_takeTurn_200 ki_0 ?_
                exact z_sub [] rfl (h201 p17 (zirem v2 (4 : Int32)) (0 : Int32) D)
          · refine z_case (fun e4 => ?_) (fun e4 => ?_)
            · refine z_tableIn (pc := 9) (tgt := 208) d_SF_takeTurn_9 e4 (by decide) (by decide) rfl (by decide) ?_
              refine z_aload_n (pc := 208) d_SF_takeTurn_208 rfl 1 rfl ?_
              refine z_iconst (pc := 209) d_SF_takeTurn_209 ki_1 ?_
              refine z_iload_n (pc := 210) d_SF_takeTurn_210 rfl 0 rfl ?_
              refine z_bipush (pc := 211) d_SF_takeTurn_211 kb_9 ?_
              refine z_iremK (pc := 213) d_SF_takeTurn_213 (by decide) ?_
              refine z_iadd (pc := 214) d_SF_takeTurn_214 ?_
              refine z_putI (pc := 215) fl_SF_129 d_SF_takeTurn_215 (fun D18 => ?_)
              refine z_goto (pc := 218) (tgt := 231) d_SF_takeTurn_218 (by decide) ?_
              exact z_sub [] rfl (h231 D18)
            · refine z_tableOut (pc := 9) (tgt := 221) d_SF_takeTurn_9 (by have g0 := z_neI e0 (n := 0) rfl; have g1 := z_neI e1 (n := 1) rfl; have g2 := z_neI e2 (n := 2) rfl; have g3 := z_neI e3 (n := 3) rfl; have g4 := z_neI e4 (n := 4) rfl; omega) (by decide) ?_
              refine z_aload_n (pc := 221) d_SF_takeTurn_221 rfl 1 rfl ?_
              refine z_iconst (pc := 222) d_SF_takeTurn_222 ki_1 ?_
              refine z_iload_n (pc := 223) d_SF_takeTurn_223 rfl 0 rfl ?_
              refine z_bipush (pc := 224) d_SF_takeTurn_224 kb_12 ?_
              refine z_iremK (pc := 226) d_SF_takeTurn_226 (by decide) ?_
              refine z_iadd (pc := 227) d_SF_takeTurn_227 ?_
              refine z_callVv (pc := 228) [.int ((1 : Int32) + (zirem v2 (12 : Int32)))] lkV_SF_132 rfl (c_Field_pass z D r0 ((1 : Int32) + (zirem v2 (12 : Int32)))) (by decide) rfl rfl (Nat.le_of_ble_eq_true rfl) d_SF_takeTurn_228 (fun D19 => ?_)
              exact z_sub [] rfl (h231 D19)
