def Y_SF_isWithin : zY := (⟨"SirenFair", "isWithin", "(III)Z"⟩, prog_1_method_33_code, 3, some .boolean, [])
def Y_Field_change : zY := (⟨"SirenFair$Field", "change", "(II)I"⟩, prog_4_method_5_code, 4, some .int, [])
theorem w_fl_Field_46 : Cond.fieldLink "SirenFair$Field" 46 "SirenFair$Field" "speedOfSound" "I" ∈ zWd := zin 288 (by decide +kernel) rfl
theorem in_Field : ∀ w ∈ u_ws "SirenFair$Field" T_Field 9, w ∈ zWd := by decide +kernel
theorem zc_Field : zcls 3 "SirenFair$Field" T_Field 9 ty_Field := ⟨rfl, in_Field, nm_Field, tyok_Field⟩
theorem fl_Field_46 : zfl "SirenFair$Field" 46 3 7 (.int) false := ⟨_, _, _, _, zc_Field, by decide, w_fl_Field_46, rfl, rfl, rfl⟩
theorem w_fl_Field_50 : Cond.fieldLink "SirenFair$Field" 50 "SirenFair$Field" "lasting" "I" ∈ zWd := zin 290 (by decide +kernel) rfl
theorem fl_Field_50 : zfl "SirenFair$Field" 50 3 8 (.int) false := ⟨_, _, _, _, zc_Field, by decide, w_fl_Field_50, rfl, rfl, rfl⟩
def Y_Field_isGone : zY := (⟨"SirenFair$Field", "isGone", "(I)Z"⟩, prog_4_method_14_code, 3, some .boolean, [])
theorem w_fl_Field_21 : Cond.fieldLink "SirenFair$Field" 21 "SirenFair$Field" "hearers" "LSirenFair$Hearers;" ∈ zWd := zin 276 (by decide +kernel) rfl
theorem fl_Field_21 : zfl "SirenFair$Field" 21 3 1 (.object "SirenFair$Hearers") true := ⟨_, _, _, _, zc_Field, by decide, w_fl_Field_21, rfl, rfl, rfl⟩
theorem w_fl_Field_178 : Cond.fieldLink "SirenFair$Field" 178 "SirenFair$Hearers" "count" "I" ∈ zWd := zin 140 (by decide +kernel) rfl
theorem fl_Field_178 : zfl "SirenFair$Field" 178 4 6 (.int) false := ⟨_, _, _, _, zc_Hearers, by decide, w_fl_Field_178, rfl, rfl, rfl⟩
theorem w_fl_Field_35 : Cond.fieldLink "SirenFair$Field" 35 "SirenFair$Field" "pulses" "LSirenFair$Pulses;" ∈ zWd := zin 280 (by decide +kernel) rfl
theorem fl_Field_35 : zfl "SirenFair$Field" 35 3 3 (.object "SirenFair$Pulses") true := ⟨_, _, _, _, zc_Field, by decide, w_fl_Field_35, rfl, rfl, rfl⟩
theorem w_fl_Field_179 : Cond.fieldLink "SirenFair$Field" 179 "SirenFair$Pulses" "heardBy" "[I" ∈ zWd := zin 205 (by decide +kernel) rfl
theorem fl_Field_179 : zfl "SirenFair$Field" 179 5 5 (.array (.int)) true := ⟨_, _, _, _, zc_Pulses, by decide, w_fl_Field_179, rfl, rfl, rfl⟩
theorem w_fl_Field_69 : Cond.fieldLink "SirenFair$Field" 69 "SirenFair$Field" "time" "I" ∈ zWd := zin 284 (by decide +kernel) rfl
theorem fl_Field_69 : zfl "SirenFair$Field" 69 3 5 (.int) false := ⟨_, _, _, _, zc_Field, by decide, w_fl_Field_69, rfl, rfl, rfl⟩
theorem w_fl_Field_176 : Cond.fieldLink "SirenFair$Field" 176 "SirenFair$Pulses" "tick" "[I" ∈ zWd := zin 199 (by decide +kernel) rfl
theorem fl_Field_176 : zfl "SirenFair$Field" 176 5 3 (.array (.int)) true := ⟨_, _, _, _, zc_Pulses, by decide, w_fl_Field_176, rfl, rfl, rfl⟩
def Y_Field_copyFrom : zY := (⟨"SirenFair$Field", "copyFrom", "(LSirenFair$Field;)V"⟩, prog_4_method_2_code, 2, none, [])
theorem w_fl_Field_12 : Cond.fieldLink "SirenFair$Field" 12 "SirenFair$Field" "sirens" "LSirenFair$Sirens;" ∈ zWd := zin 274 (by decide +kernel) rfl
theorem fl_Field_12 : zfl "SirenFair$Field" 12 3 0 (.object "SirenFair$Sirens") true := ⟨_, _, _, _, zc_Field, by decide, w_fl_Field_12, rfl, rfl, rfl⟩
theorem w_fl_Field_28 : Cond.fieldLink "SirenFair$Field" 28 "SirenFair$Field" "walls" "LSirenFair$Walls;" ∈ zWd := zin 278 (by decide +kernel) rfl
theorem fl_Field_28 : zfl "SirenFair$Field" 28 3 2 (.object "SirenFair$Walls") true := ⟨_, _, _, _, zc_Field, by decide, w_fl_Field_28, rfl, rfl, rfl⟩
theorem w_fl_Field_42 : Cond.fieldLink "SirenFair$Field" 42 "SirenFair$Field" "ears" "LSirenFair$Ears;" ∈ zWd := zin 282 (by decide +kernel) rfl
theorem fl_Field_42 : zfl "SirenFair$Field" 42 3 4 (.object "SirenFair$Ears") true := ⟨_, _, _, _, zc_Field, by decide, w_fl_Field_42, rfl, rfl, rfl⟩
theorem w_fl_Field_72 : Cond.fieldLink "SirenFair$Field" 72 "SirenFair$Field" "given" "I" ∈ zWd := zin 286 (by decide +kernel) rfl
theorem fl_Field_72 : zfl "SirenFair$Field" 72 3 6 (.int) false := ⟨_, _, _, _, zc_Field, by decide, w_fl_Field_72, rfl, rfl, rfl⟩
theorem w_c_Sirens_copyFrom : Cond.code Y_Sirens_copyFrom.1 Y_Sirens_copyFrom.2.1 Y_Sirens_copyFrom.2.2.1 Y_Sirens_copyFrom.2.2.2.1 ∈ zWd := zin 447 (by decide +kernel) rfl
theorem lk_Sirens_copyFrom : zlk Y_Sirens_copyFrom 1 := ⟨w_c_Sirens_copyFrom, w_ini_Sirens, by decide +kernel, by decide +kernel, by decide⟩
theorem w_ml_Field_53 : Cond.methodLink "SirenFair$Field" 53 Y_Sirens_copyFrom.1 ∈ zWd := zin 444 (by decide +kernel) rfl
theorem w_im_Sirens_copyFrom : Cond.instanceMethod Y_Sirens_copyFrom.1 ∈ zWd := zin 445 (by decide +kernel) rfl
theorem w_sel_Sirens_copyFrom : Cond.selects "SirenFair$Sirens" Y_Sirens_copyFrom.1 Y_Sirens_copyFrom.1 ∈ zWd := zin 446 (by decide +kernel) rfl
theorem lkV_Field_53 : zlkV "SirenFair$Field" 53 Y_Sirens_copyFrom 1 := ⟨lk_Sirens_copyFrom, w_ml_Field_53, w_im_Sirens_copyFrom, w_sel_Sirens_copyFrom⟩
theorem w_c_Hearers_copyFrom : Cond.code Y_Hearers_copyFrom.1 Y_Hearers_copyFrom.2.1 Y_Hearers_copyFrom.2.2.1 Y_Hearers_copyFrom.2.2.2.1 ∈ zWd := zin 454 (by decide +kernel) rfl
theorem lk_Hearers_copyFrom : zlk Y_Hearers_copyFrom 1 := ⟨w_c_Hearers_copyFrom, w_ini_Hearers, by decide +kernel, by decide +kernel, by decide⟩
theorem w_ml_Field_57 : Cond.methodLink "SirenFair$Field" 57 Y_Hearers_copyFrom.1 ∈ zWd := zin 451 (by decide +kernel) rfl
theorem w_im_Hearers_copyFrom : Cond.instanceMethod Y_Hearers_copyFrom.1 ∈ zWd := zin 452 (by decide +kernel) rfl
theorem w_sel_Hearers_copyFrom : Cond.selects "SirenFair$Hearers" Y_Hearers_copyFrom.1 Y_Hearers_copyFrom.1 ∈ zWd := zin 453 (by decide +kernel) rfl
theorem lkV_Field_57 : zlkV "SirenFair$Field" 57 Y_Hearers_copyFrom 1 := ⟨lk_Hearers_copyFrom, w_ml_Field_57, w_im_Hearers_copyFrom, w_sel_Hearers_copyFrom⟩
theorem w_c_Walls_copyFrom : Cond.code Y_Walls_copyFrom.1 Y_Walls_copyFrom.2.1 Y_Walls_copyFrom.2.2.1 Y_Walls_copyFrom.2.2.2.1 ∈ zWd := zin 459 (by decide +kernel) rfl
theorem w_ini_Walls : Cond.initialized "SirenFair$Walls" ∈ zWd := zin 21 (by decide +kernel) rfl
theorem lk_Walls_copyFrom : zlk Y_Walls_copyFrom 1 := ⟨w_c_Walls_copyFrom, w_ini_Walls, by decide +kernel, by decide +kernel, by decide⟩
theorem w_ml_Field_60 : Cond.methodLink "SirenFair$Field" 60 Y_Walls_copyFrom.1 ∈ zWd := zin 456 (by decide +kernel) rfl
theorem w_im_Walls_copyFrom : Cond.instanceMethod Y_Walls_copyFrom.1 ∈ zWd := zin 457 (by decide +kernel) rfl
theorem w_sel_Walls_copyFrom : Cond.selects "SirenFair$Walls" Y_Walls_copyFrom.1 Y_Walls_copyFrom.1 ∈ zWd := zin 458 (by decide +kernel) rfl
theorem lkV_Field_60 : zlkV "SirenFair$Field" 60 Y_Walls_copyFrom 1 := ⟨lk_Walls_copyFrom, w_ml_Field_60, w_im_Walls_copyFrom, w_sel_Walls_copyFrom⟩
theorem w_c_Pulses_copyFrom : Cond.code Y_Pulses_copyFrom.1 Y_Pulses_copyFrom.2.1 Y_Pulses_copyFrom.2.2.1 Y_Pulses_copyFrom.2.2.2.1 ∈ zWd := zin 464 (by decide +kernel) rfl
theorem lk_Pulses_copyFrom : zlk Y_Pulses_copyFrom 1 := ⟨w_c_Pulses_copyFrom, w_ini_Pulses, by decide +kernel, by decide +kernel, by decide⟩
theorem w_ml_Field_63 : Cond.methodLink "SirenFair$Field" 63 Y_Pulses_copyFrom.1 ∈ zWd := zin 461 (by decide +kernel) rfl
theorem w_im_Pulses_copyFrom : Cond.instanceMethod Y_Pulses_copyFrom.1 ∈ zWd := zin 462 (by decide +kernel) rfl
theorem w_sel_Pulses_copyFrom : Cond.selects "SirenFair$Pulses" Y_Pulses_copyFrom.1 Y_Pulses_copyFrom.1 ∈ zWd := zin 463 (by decide +kernel) rfl
theorem lkV_Field_63 : zlkV "SirenFair$Field" 63 Y_Pulses_copyFrom 1 := ⟨lk_Pulses_copyFrom, w_ml_Field_63, w_im_Pulses_copyFrom, w_sel_Pulses_copyFrom⟩
theorem w_c_Ears_copyFrom : Cond.code Y_Ears_copyFrom.1 Y_Ears_copyFrom.2.1 Y_Ears_copyFrom.2.2.1 Y_Ears_copyFrom.2.2.2.1 ∈ zWd := zin 469 (by decide +kernel) rfl
theorem w_ini_Ears : Cond.initialized "SirenFair$Ears" ∈ zWd := zin 23 (by decide +kernel) rfl
theorem lk_Ears_copyFrom : zlk Y_Ears_copyFrom 1 := ⟨w_c_Ears_copyFrom, w_ini_Ears, by decide +kernel, by decide +kernel, by decide⟩
theorem w_ml_Field_66 : Cond.methodLink "SirenFair$Field" 66 Y_Ears_copyFrom.1 ∈ zWd := zin 466 (by decide +kernel) rfl
theorem w_im_Ears_copyFrom : Cond.instanceMethod Y_Ears_copyFrom.1 ∈ zWd := zin 467 (by decide +kernel) rfl
theorem w_sel_Ears_copyFrom : Cond.selects "SirenFair$Ears" Y_Ears_copyFrom.1 Y_Ears_copyFrom.1 ∈ zWd := zin 468 (by decide +kernel) rfl
theorem lkV_Field_66 : zlkV "SirenFair$Field" 66 Y_Ears_copyFrom 1 := ⟨lk_Ears_copyFrom, w_ml_Field_66, w_im_Ears_copyFrom, w_sel_Ears_copyFrom⟩
def Y_Field_hasPair : zY := (⟨"SirenFair$Field", "hasPair", "(II)Z"⟩, prog_4_method_3_code, 3, some .boolean, [])
theorem w_ml_Field_75 : Cond.methodLink "SirenFair$Field" 75 Y_Hearers_has.1 ∈ zWd := zin 776 (by decide +kernel) rfl
theorem lkV_Field_75 : zlkV "SirenFair$Field" 75 Y_Hearers_has 1 := ⟨lk_Hearers_has, w_ml_Field_75, w_im_Hearers_has, w_sel_Hearers_has⟩
theorem w_ml_Field_79 : Cond.methodLink "SirenFair$Field" 79 Y_Sirens_has.1 ∈ zWd := zin 777 (by decide +kernel) rfl
theorem lkV_Field_79 : zlkV "SirenFair$Field" 79 Y_Sirens_has 1 := ⟨lk_Sirens_has, w_ml_Field_79, w_im_Sirens_has, w_sel_Sirens_has⟩
def Y_Field_isSetting : zY := (⟨"SirenFair$Field", "isSetting", "(II)Z"⟩, prog_4_method_4_code, 2, some .boolean, [])
theorem w_c_SF_isWithin : Cond.code Y_SF_isWithin.1 Y_SF_isWithin.2.1 Y_SF_isWithin.2.2.1 Y_SF_isWithin.2.2.2.1 ∈ zWd := zin 350 (by decide +kernel) rfl
theorem w_ini_SF : Cond.initialized "SirenFair" ∈ zWd := zin 16 (by decide +kernel) rfl
theorem lk_SF_isWithin : zlk Y_SF_isWithin 3 := ⟨w_c_SF_isWithin, w_ini_SF, by decide +kernel, by decide +kernel, by decide⟩
theorem w_ml_Field_80 : Cond.methodLinkNest "SirenFair$Field" 80 Y_SF_isWithin.1 "SirenFair" ∈ zWd := zin 815 (by decide +kernel) rfl
theorem w_st_SF_isWithin : Cond.static Y_SF_isWithin.1 ∈ zWd := zin 349 (by decide +kernel) rfl
theorem lkS_Field_80 : zlkSN "SirenFair$Field" 80 Y_SF_isWithin "SirenFair" 3 := ⟨lk_SF_isWithin, w_ml_Field_80, w_st_SF_isWithin⟩
def Y_Field_init : zY := (⟨"SirenFair$Field", "<init>", "()V"⟩, prog_4_method_1_code, 1, none, [])
theorem w_ml_Field_3 : Cond.methodLink "SirenFair$Field" 3 Lib.objectInit ∈ zWd := zin 75 (by decide +kernel) rfl
theorem w_cl_Field_9 : Cond.classLink "SirenFair$Field" 9 "SirenFair$Sirens" ∈ zWd := zin 76 (by decide +kernel) rfl
theorem w_inst_Sirens : Cond.instantiable "SirenFair$Sirens" 8 ∈ zWd := zin 77 (by decide +kernel) rfl
theorem w_c_Sirens_init : Cond.code Y_Sirens_init.1 Y_Sirens_init.2.1 Y_Sirens_init.2.2.1 Y_Sirens_init.2.2.2.1 ∈ zWd := zin 80 (by decide +kernel) rfl
theorem lk_Sirens_init : zlk Y_Sirens_init 0 := ⟨w_c_Sirens_init, w_ini_Sirens, by decide +kernel, by decide +kernel, by decide⟩
theorem w_ml_Field_11 : Cond.methodLinkNest "SirenFair$Field" 11 Y_Sirens_init.1 "SirenFair" ∈ zWd := zin 78 (by decide +kernel) rfl
theorem w_im_Sirens_init : Cond.instanceMethod Y_Sirens_init.1 ∈ zWd := zin 79 (by decide +kernel) rfl
theorem lkI_Field_11 : zlkIN "SirenFair$Field" 11 Y_Sirens_init "SirenFair" 0 := ⟨lk_Sirens_init, w_ml_Field_11, w_im_Sirens_init, rfl, rfl⟩
theorem w_cl_Field_18 : Cond.classLink "SirenFair$Field" 18 "SirenFair$Hearers" ∈ zWd := zin 118 (by decide +kernel) rfl
theorem w_inst_Hearers : Cond.instantiable "SirenFair$Hearers" 8 ∈ zWd := zin 119 (by decide +kernel) rfl
theorem w_c_Hearers_init : Cond.code Y_Hearers_init.1 Y_Hearers_init.2.1 Y_Hearers_init.2.2.1 Y_Hearers_init.2.2.2.1 ∈ zWd := zin 122 (by decide +kernel) rfl
theorem lk_Hearers_init : zlk Y_Hearers_init 0 := ⟨w_c_Hearers_init, w_ini_Hearers, by decide +kernel, by decide +kernel, by decide⟩
theorem w_ml_Field_20 : Cond.methodLinkNest "SirenFair$Field" 20 Y_Hearers_init.1 "SirenFair" ∈ zWd := zin 120 (by decide +kernel) rfl
theorem w_im_Hearers_init : Cond.instanceMethod Y_Hearers_init.1 ∈ zWd := zin 121 (by decide +kernel) rfl
theorem lkI_Field_20 : zlkIN "SirenFair$Field" 20 Y_Hearers_init "SirenFair" 0 := ⟨lk_Hearers_init, w_ml_Field_20, w_im_Hearers_init, rfl, rfl⟩
theorem w_cl_Field_25 : Cond.classLink "SirenFair$Field" 25 "SirenFair$Walls" ∈ zWd := zin 160 (by decide +kernel) rfl
theorem w_inst_Walls : Cond.instantiable "SirenFair$Walls" 3 ∈ zWd := zin 161 (by decide +kernel) rfl
theorem w_c_Walls_init : Cond.code Y_Walls_init.1 Y_Walls_init.2.1 Y_Walls_init.2.2.1 Y_Walls_init.2.2.2.1 ∈ zWd := zin 164 (by decide +kernel) rfl
theorem lk_Walls_init : zlk Y_Walls_init 0 := ⟨w_c_Walls_init, w_ini_Walls, by decide +kernel, by decide +kernel, by decide⟩
theorem w_ml_Field_27 : Cond.methodLinkNest "SirenFair$Field" 27 Y_Walls_init.1 "SirenFair" ∈ zWd := zin 162 (by decide +kernel) rfl
theorem w_im_Walls_init : Cond.instanceMethod Y_Walls_init.1 ∈ zWd := zin 163 (by decide +kernel) rfl
theorem lkI_Field_27 : zlkIN "SirenFair$Field" 27 Y_Walls_init "SirenFair" 0 := ⟨lk_Walls_init, w_ml_Field_27, w_im_Walls_init, rfl, rfl⟩
theorem w_cl_Field_32 : Cond.classLink "SirenFair$Field" 32 "SirenFair$Pulses" ∈ zWd := zin 182 (by decide +kernel) rfl
theorem w_inst_Pulses : Cond.instantiable "SirenFair$Pulses" 8 ∈ zWd := zin 183 (by decide +kernel) rfl
theorem w_c_Pulses_init : Cond.code Y_Pulses_init.1 Y_Pulses_init.2.1 Y_Pulses_init.2.2.1 Y_Pulses_init.2.2.2.1 ∈ zWd := zin 186 (by decide +kernel) rfl
theorem lk_Pulses_init : zlk Y_Pulses_init 0 := ⟨w_c_Pulses_init, w_ini_Pulses, by decide +kernel, by decide +kernel, by decide⟩
theorem w_ml_Field_34 : Cond.methodLinkNest "SirenFair$Field" 34 Y_Pulses_init.1 "SirenFair" ∈ zWd := zin 184 (by decide +kernel) rfl
theorem w_im_Pulses_init : Cond.instanceMethod Y_Pulses_init.1 ∈ zWd := zin 185 (by decide +kernel) rfl
theorem lkI_Field_34 : zlkIN "SirenFair$Field" 34 Y_Pulses_init "SirenFair" 0 := ⟨lk_Pulses_init, w_ml_Field_34, w_im_Pulses_init, rfl, rfl⟩
theorem w_cl_Field_39 : Cond.classLink "SirenFair$Field" 39 "SirenFair$Ears" ∈ zWd := zin 227 (by decide +kernel) rfl
theorem w_inst_Ears : Cond.instantiable "SirenFair$Ears" 9 ∈ zWd := zin 228 (by decide +kernel) rfl
theorem w_c_Ears_init : Cond.code Y_Ears_init.1 Y_Ears_init.2.1 Y_Ears_init.2.2.1 Y_Ears_init.2.2.2.1 ∈ zWd := zin 231 (by decide +kernel) rfl
theorem lk_Ears_init : zlk Y_Ears_init 0 := ⟨w_c_Ears_init, w_ini_Ears, by decide +kernel, by decide +kernel, by decide⟩
theorem w_ml_Field_41 : Cond.methodLink "SirenFair$Field" 41 Y_Ears_init.1 ∈ zWd := zin 229 (by decide +kernel) rfl
theorem w_im_Ears_init : Cond.instanceMethod Y_Ears_init.1 ∈ zWd := zin 230 (by decide +kernel) rfl
theorem lkI_Field_41 : zlkI "SirenFair$Field" 41 Y_Ears_init 0 := ⟨lk_Ears_init, w_ml_Field_41, w_im_Ears_init, rfl, rfl⟩
def Y_Field_soundOf : zY := (⟨"SirenFair$Field", "soundOf", "(II)I"⟩, prog_4_method_6_code, 5, some .int, [])
theorem w_fl_Field_88 : Cond.fieldLink "SirenFair$Field" 88 "SirenFair$Ears" "pause" "[I" ∈ zWd := zin 245 (by decide +kernel) rfl
theorem fl_Field_88 : zfl "SirenFair$Field" 88 1 4 (.array (.int)) true := ⟨_, _, _, _, zc_Ears, by decide, w_fl_Field_88, rfl, rfl, rfl⟩
theorem w_fl_Field_96 : Cond.fieldLink "SirenFair$Field" 96 "SirenFair$Sirens" "period" "[I" ∈ zWd := zin 91 (by decide +kernel) rfl
theorem fl_Field_96 : zfl "SirenFair$Field" 96 6 4 (.array (.int)) true := ⟨_, _, _, _, zc_Sirens, by decide, w_fl_Field_96, rfl, rfl, rfl⟩
theorem w_c_Field_hasPair : Cond.code Y_Field_hasPair.1 Y_Field_hasPair.2.1 Y_Field_hasPair.2.2.1 Y_Field_hasPair.2.2.2.1 ∈ zWd := zin 775 (by decide +kernel) rfl
theorem w_ini_Field : Cond.initialized "SirenFair$Field" ∈ zWd := zin 18 (by decide +kernel) rfl
theorem lk_Field_hasPair : zlk Y_Field_hasPair 2 := ⟨w_c_Field_hasPair, w_ini_Field, by decide +kernel, by decide +kernel, by decide⟩
theorem w_ml_Field_84 : Cond.methodLink "SirenFair$Field" 84 Y_Field_hasPair.1 ∈ zWd := zin 784 (by decide +kernel) rfl
theorem w_im_Field_hasPair : Cond.instanceMethod Y_Field_hasPair.1 ∈ zWd := zin 773 (by decide +kernel) rfl
theorem w_sel_Field_hasPair : Cond.selects "SirenFair$Field" Y_Field_hasPair.1 Y_Field_hasPair.1 ∈ zWd := zin 774 (by decide +kernel) rfl
theorem lkV_Field_84 : zlkV "SirenFair$Field" 84 Y_Field_hasPair 2 := ⟨lk_Field_hasPair, w_ml_Field_84, w_im_Field_hasPair, w_sel_Field_hasPair⟩
theorem w_c_Ears_pairOf : Cond.code Y_Ears_pairOf.1 Y_Ears_pairOf.2.1 Y_Ears_pairOf.2.2.1 Y_Ears_pairOf.2.2.2.1 ∈ zWd := zin 655 (by decide +kernel) rfl
theorem lk_Ears_pairOf : zlk Y_Ears_pairOf 2 := ⟨w_c_Ears_pairOf, w_ini_Ears, by decide +kernel, by decide +kernel, by decide⟩
theorem w_ml_Field_92 : Cond.methodLink "SirenFair$Field" 92 Y_Ears_pairOf.1 ∈ zWd := zin 653 (by decide +kernel) rfl
theorem w_st_Ears_pairOf : Cond.static Y_Ears_pairOf.1 ∈ zWd := zin 654 (by decide +kernel) rfl
theorem lkS_Field_92 : zlkS "SirenFair$Field" 92 Y_Ears_pairOf 2 := ⟨lk_Ears_pairOf, w_ml_Field_92, w_st_Ears_pairOf⟩
def Y_Field_give : zY := (⟨"SirenFair$Field", "give", "(IIII)V"⟩, prog_4_method_11_code, 5, none, [])
theorem w_c_Pulses_add : Cond.code Y_Pulses_add.1 Y_Pulses_add.2.1 Y_Pulses_add.2.2.1 Y_Pulses_add.2.2.2.1 ∈ zWd := zin 632 (by decide +kernel) rfl
theorem lk_Pulses_add : zlk Y_Pulses_add 5 := ⟨w_c_Pulses_add, w_ini_Pulses, by decide +kernel, by decide +kernel, by decide⟩
theorem w_ml_Field_146 : Cond.methodLink "SirenFair$Field" 146 Y_Pulses_add.1 ∈ zWd := zin 629 (by decide +kernel) rfl
theorem w_im_Pulses_add : Cond.instanceMethod Y_Pulses_add.1 ∈ zWd := zin 630 (by decide +kernel) rfl
theorem w_sel_Pulses_add : Cond.selects "SirenFair$Pulses" Y_Pulses_add.1 Y_Pulses_add.1 ∈ zWd := zin 631 (by decide +kernel) rfl
theorem lkV_Field_146 : zlkV "SirenFair$Field" 146 Y_Pulses_add 5 := ⟨lk_Pulses_add, w_ml_Field_146, w_im_Pulses_add, w_sel_Pulses_add⟩
def Y_Field_hearPulse : zY := (⟨"SirenFair$Field", "hearPulse", "(I)V"⟩, prog_4_method_13_code, 8, none, [])
theorem w_fl_Field_164 : Cond.fieldLink "SirenFair$Field" 164 "SirenFair$Pulses" "siren" "[I" ∈ zWd := zin 190 (by decide +kernel) rfl
theorem fl_Field_164 : zfl "SirenFair$Field" 164 5 0 (.array (.int)) true := ⟨_, _, _, _, zc_Pulses, by decide, w_fl_Field_164, rfl, rfl, rfl⟩
theorem w_fl_Field_167 : Cond.fieldLink "SirenFair$Field" 167 "SirenFair$Pulses" "x" "[I" ∈ zWd := zin 193 (by decide +kernel) rfl
theorem fl_Field_167 : zfl "SirenFair$Field" 167 5 1 (.array (.int)) true := ⟨_, _, _, _, zc_Pulses, by decide, w_fl_Field_167, rfl, rfl, rfl⟩
theorem w_fl_Field_170 : Cond.fieldLink "SirenFair$Field" 170 "SirenFair$Pulses" "y" "[I" ∈ zWd := zin 196 (by decide +kernel) rfl
theorem fl_Field_170 : zfl "SirenFair$Field" 170 5 2 (.array (.int)) true := ⟨_, _, _, _, zc_Pulses, by decide, w_fl_Field_170, rfl, rfl, rfl⟩
theorem w_fl_Field_173 : Cond.fieldLink "SirenFair$Field" 173 "SirenFair$Pulses" "wall" "[I" ∈ zWd := zin 202 (by decide +kernel) rfl
theorem fl_Field_173 : zfl "SirenFair$Field" 173 5 4 (.array (.int)) true := ⟨_, _, _, _, zc_Pulses, by decide, w_fl_Field_173, rfl, rfl, rfl⟩
theorem w_fl_Field_190 : Cond.fieldLink "SirenFair$Field" 190 "SirenFair$Hearers" "sirensNow" "[I" ∈ zWd := zin 137 (by decide +kernel) rfl
theorem fl_Field_190 : zfl "SirenFair$Field" 190 4 5 (.array (.int)) true := ⟨_, _, _, _, zc_Hearers, by decide, w_fl_Field_190, rfl, rfl, rfl⟩
theorem w_fl_Field_193 : Cond.fieldLink "SirenFair$Field" 193 "SirenFair$Hearers" "x" "[I" ∈ zWd := zin 126 (by decide +kernel) rfl
theorem fl_Field_193 : zfl "SirenFair$Field" 193 4 0 (.array (.int)) true := ⟨_, _, _, _, zc_Hearers, by decide, w_fl_Field_193, rfl, rfl, rfl⟩
theorem w_fl_Field_194 : Cond.fieldLink "SirenFair$Field" 194 "SirenFair$Hearers" "y" "[I" ∈ zWd := zin 129 (by decide +kernel) rfl
theorem fl_Field_194 : zfl "SirenFair$Field" 194 4 1 (.array (.int)) true := ⟨_, _, _, _, zc_Hearers, by decide, w_fl_Field_194, rfl, rfl, rfl⟩
theorem w_c_Hearers_wayTo : Cond.code Y_Hearers_wayTo.1 Y_Hearers_wayTo.2.1 Y_Hearers_wayTo.2.2.1 Y_Hearers_wayTo.2.2.2.1 ∈ zWd := zin 649 (by decide +kernel) rfl
theorem lk_Hearers_wayTo : zlk Y_Hearers_wayTo 3 := ⟨w_c_Hearers_wayTo, w_ini_Hearers, by decide +kernel, by decide +kernel, by decide⟩
theorem w_ml_Field_182 : Cond.methodLink "SirenFair$Field" 182 Y_Hearers_wayTo.1 ∈ zWd := zin 646 (by decide +kernel) rfl
theorem w_im_Hearers_wayTo : Cond.instanceMethod Y_Hearers_wayTo.1 ∈ zWd := zin 647 (by decide +kernel) rfl
theorem w_sel_Hearers_wayTo : Cond.selects "SirenFair$Hearers" Y_Hearers_wayTo.1 Y_Hearers_wayTo.1 ∈ zWd := zin 648 (by decide +kernel) rfl
theorem lkV_Field_182 : zlkV "SirenFair$Field" 182 Y_Hearers_wayTo 3 := ⟨lk_Hearers_wayTo, w_ml_Field_182, w_im_Hearers_wayTo, w_sel_Hearers_wayTo⟩
theorem w_c_Walls_isBetween : Cond.code Y_Walls_isBetween.1 Y_Walls_isBetween.2.1 Y_Walls_isBetween.2.2.1 Y_Walls_isBetween.2.2.2.1 ∈ zWd := zin 663 (by decide +kernel) rfl
theorem lk_Walls_isBetween : zlk Y_Walls_isBetween 5 := ⟨w_c_Walls_isBetween, w_ini_Walls, by decide +kernel, by decide +kernel, by decide⟩
theorem w_ml_Field_195 : Cond.methodLink "SirenFair$Field" 195 Y_Walls_isBetween.1 ∈ zWd := zin 660 (by decide +kernel) rfl
theorem w_im_Walls_isBetween : Cond.instanceMethod Y_Walls_isBetween.1 ∈ zWd := zin 661 (by decide +kernel) rfl
theorem w_sel_Walls_isBetween : Cond.selects "SirenFair$Walls" Y_Walls_isBetween.1 Y_Walls_isBetween.1 ∈ zWd := zin 662 (by decide +kernel) rfl
theorem lkV_Field_195 : zlkV "SirenFair$Field" 195 Y_Walls_isBetween 5 := ⟨lk_Walls_isBetween, w_ml_Field_195, w_im_Walls_isBetween, w_sel_Walls_isBetween⟩
theorem w_c_Ears_hearEcho : Cond.code Y_Ears_hearEcho.1 Y_Ears_hearEcho.2.1 Y_Ears_hearEcho.2.2.1 Y_Ears_hearEcho.2.2.2.1 ∈ zWd := zin 667 (by decide +kernel) rfl
theorem lk_Ears_hearEcho : zlk Y_Ears_hearEcho 1 := ⟨w_c_Ears_hearEcho, w_ini_Ears, by decide +kernel, by decide +kernel, by decide⟩
theorem w_ml_Field_199 : Cond.methodLink "SirenFair$Field" 199 Y_Ears_hearEcho.1 ∈ zWd := zin 664 (by decide +kernel) rfl
theorem w_im_Ears_hearEcho : Cond.instanceMethod Y_Ears_hearEcho.1 ∈ zWd := zin 665 (by decide +kernel) rfl
theorem w_sel_Ears_hearEcho : Cond.selects "SirenFair$Ears" Y_Ears_hearEcho.1 Y_Ears_hearEcho.1 ∈ zWd := zin 666 (by decide +kernel) rfl
theorem lkV_Field_199 : zlkV "SirenFair$Field" 199 Y_Ears_hearEcho 1 := ⟨lk_Ears_hearEcho, w_ml_Field_199, w_im_Ears_hearEcho, w_sel_Ears_hearEcho⟩
theorem w_c_Ears_hearDirect : Cond.code Y_Ears_hearDirect.1 Y_Ears_hearDirect.2.1 Y_Ears_hearDirect.2.2.1 Y_Ears_hearDirect.2.2.2.1 ∈ zWd := zin 659 (by decide +kernel) rfl
theorem lk_Ears_hearDirect : zlk Y_Ears_hearDirect 3 := ⟨w_c_Ears_hearDirect, w_ini_Ears, by decide +kernel, by decide +kernel, by decide⟩
theorem w_ml_Field_186 : Cond.methodLink "SirenFair$Field" 186 Y_Ears_hearDirect.1 ∈ zWd := zin 656 (by decide +kernel) rfl
theorem w_im_Ears_hearDirect : Cond.instanceMethod Y_Ears_hearDirect.1 ∈ zWd := zin 657 (by decide +kernel) rfl
theorem w_sel_Ears_hearDirect : Cond.selects "SirenFair$Ears" Y_Ears_hearDirect.1 Y_Ears_hearDirect.1 ∈ zWd := zin 658 (by decide +kernel) rfl
theorem lkV_Field_186 : zlkV "SirenFair$Field" 186 Y_Ears_hearDirect 3 := ⟨lk_Ears_hearDirect, w_ml_Field_186, w_im_Ears_hearDirect, w_sel_Ears_hearDirect⟩
def Y_Field_givePulses : zY := (⟨"SirenFair$Field", "givePulses", "(I)V"⟩, prog_4_method_10_code, 6, none, [])
theorem w_fl_Field_138 : Cond.fieldLink "SirenFair$Field" 138 "SirenFair$Walls" "count" "I" ∈ zWd := zin 174 (by decide +kernel) rfl
theorem fl_Field_138 : zfl "SirenFair$Field" 138 7 2 (.int) false := ⟨_, _, _, _, zc_Walls, by decide, w_fl_Field_138, rfl, rfl, rfl⟩
theorem w_fl_Field_139 : Cond.fieldLink "SirenFair$Field" 139 "SirenFair$Walls" "at" "[I" ∈ zWd := zin 170 (by decide +kernel) rfl
theorem fl_Field_139 : zfl "SirenFair$Field" 139 7 1 (.array (.int)) true := ⟨_, _, _, _, zc_Walls, by decide, w_fl_Field_139, rfl, rfl, rfl⟩
theorem w_fl_Field_142 : Cond.fieldLink "SirenFair$Field" 142 "SirenFair$Walls" "upright" "[Z" ∈ zWd := zin 168 (by decide +kernel) rfl
theorem fl_Field_142 : zfl "SirenFair$Field" 142 7 0 (.array (.boolean)) true := ⟨_, _, _, _, zc_Walls, by decide, w_fl_Field_142, rfl, rfl, rfl⟩
theorem w_c_Field_give : Cond.code Y_Field_give.1 Y_Field_give.2.1 Y_Field_give.2.2.1 Y_Field_give.2.2.2.1 ∈ zWd := zin 628 (by decide +kernel) rfl
theorem lk_Field_give : zlk Y_Field_give 4 := ⟨w_c_Field_give, w_ini_Field, by decide +kernel, by decide +kernel, by decide⟩
theorem w_ml_Field_134 : Cond.methodLink "SirenFair$Field" 134 Y_Field_give.1 ∈ zWd := zin 625 (by decide +kernel) rfl
theorem w_im_Field_give : Cond.instanceMethod Y_Field_give.1 ∈ zWd := zin 627 (by decide +kernel) rfl
theorem w_sel_Field_give : Cond.selects "SirenFair$Field" Y_Field_give.1 Y_Field_give.1 ∈ zWd := zin 11 (by decide +kernel) rfl
theorem lkV_Field_134 : zlkV "SirenFair$Field" 134 Y_Field_give 4 := ⟨lk_Field_give, w_ml_Field_134, w_im_Field_give, w_sel_Field_give⟩
theorem w_ml_Field_127 : Cond.methodLink "SirenFair$Field" 127 Y_Sirens_placeX.1 ∈ zWd := zin 617 (by decide +kernel) rfl
theorem lkV_Field_127 : zlkV "SirenFair$Field" 127 Y_Sirens_placeX 1 := ⟨lk_Sirens_placeX, w_ml_Field_127, w_im_Sirens_placeX, w_sel_Sirens_placeX⟩
theorem w_ml_Field_131 : Cond.methodLink "SirenFair$Field" 131 Y_Sirens_placeY.1 ∈ zWd := zin 621 (by decide +kernel) rfl
theorem lkV_Field_131 : zlkV "SirenFair$Field" 131 Y_Sirens_placeY 1 := ⟨lk_Sirens_placeY, w_ml_Field_131, w_im_Sirens_placeY, w_sel_Sirens_placeY⟩
def Y_Field_hearPulses : zY := (⟨"SirenFair$Field", "hearPulses", "()V"⟩, prog_4_method_12_code, 4, none, [])
theorem w_fl_Field_150 : Cond.fieldLink "SirenFair$Field" 150 "SirenFair$Pulses" "count" "I" ∈ zWd := zin 209 (by decide +kernel) rfl
theorem fl_Field_150 : zfl "SirenFair$Field" 150 5 7 (.int) false := ⟨_, _, _, _, zc_Pulses, by decide, w_fl_Field_150, rfl, rfl, rfl⟩
theorem w_ml_Field_151 : Cond.methodLink "SirenFair$Field" 151 Y_Pulses_rowOf.1 ∈ zWd := zin 641 (by decide +kernel) rfl
theorem lkV_Field_151 : zlkV "SirenFair$Field" 151 Y_Pulses_rowOf 1 := ⟨lk_Pulses_rowOf, w_ml_Field_151, w_im_Pulses_rowOf, w_sel_Pulses_rowOf⟩
theorem w_c_Field_hearPulse : Cond.code Y_Field_hearPulse.1 Y_Field_hearPulse.2.1 Y_Field_hearPulse.2.2.1 Y_Field_hearPulse.2.2.2.1 ∈ zWd := zin 645 (by decide +kernel) rfl
theorem lk_Field_hearPulse : zlk Y_Field_hearPulse 1 := ⟨w_c_Field_hearPulse, w_ini_Field, by decide +kernel, by decide +kernel, by decide⟩
theorem w_ml_Field_154 : Cond.methodLink "SirenFair$Field" 154 Y_Field_hearPulse.1 ∈ zWd := zin 642 (by decide +kernel) rfl
theorem w_im_Field_hearPulse : Cond.instanceMethod Y_Field_hearPulse.1 ∈ zWd := zin 644 (by decide +kernel) rfl
theorem w_sel_Field_hearPulse : Cond.selects "SirenFair$Field" Y_Field_hearPulse.1 Y_Field_hearPulse.1 ∈ zWd := zin 13 (by decide +kernel) rfl
theorem lkV_Field_154 : zlkV "SirenFair$Field" 154 Y_Field_hearPulse 1 := ⟨lk_Field_hearPulse, w_ml_Field_154, w_im_Field_hearPulse, w_sel_Field_hearPulse⟩
theorem w_c_Field_isGone : Cond.code Y_Field_isGone.1 Y_Field_isGone.2.1 Y_Field_isGone.2.2.1 Y_Field_isGone.2.2.2.1 ∈ zWd := zin 671 (by decide +kernel) rfl
theorem lk_Field_isGone : zlk Y_Field_isGone 1 := ⟨w_c_Field_isGone, w_ini_Field, by decide +kernel, by decide +kernel, by decide⟩
theorem w_ml_Field_157 : Cond.methodLink "SirenFair$Field" 157 Y_Field_isGone.1 ∈ zWd := zin 668 (by decide +kernel) rfl
theorem w_im_Field_isGone : Cond.instanceMethod Y_Field_isGone.1 ∈ zWd := zin 670 (by decide +kernel) rfl
theorem w_sel_Field_isGone : Cond.selects "SirenFair$Field" Y_Field_isGone.1 Y_Field_isGone.1 ∈ zWd := zin 14 (by decide +kernel) rfl
theorem lkV_Field_157 : zlkV "SirenFair$Field" 157 Y_Field_isGone 1 := ⟨lk_Field_isGone, w_ml_Field_157, w_im_Field_isGone, w_sel_Field_isGone⟩
theorem w_c_Pulses_move : Cond.code Y_Pulses_move.1 Y_Pulses_move.2.1 Y_Pulses_move.2.2.1 Y_Pulses_move.2.2.2.1 ∈ zWd := zin 675 (by decide +kernel) rfl
theorem lk_Pulses_move : zlk Y_Pulses_move 2 := ⟨w_c_Pulses_move, w_ini_Pulses, by decide +kernel, by decide +kernel, by decide⟩
theorem w_ml_Field_160 : Cond.methodLink "SirenFair$Field" 160 Y_Pulses_move.1 ∈ zWd := zin 672 (by decide +kernel) rfl
theorem w_im_Pulses_move : Cond.instanceMethod Y_Pulses_move.1 ∈ zWd := zin 673 (by decide +kernel) rfl
theorem w_sel_Pulses_move : Cond.selects "SirenFair$Pulses" Y_Pulses_move.1 Y_Pulses_move.1 ∈ zWd := zin 674 (by decide +kernel) rfl
theorem lkV_Field_160 : zlkV "SirenFair$Field" 160 Y_Pulses_move 2 := ⟨lk_Pulses_move, w_ml_Field_160, w_im_Pulses_move, w_sel_Pulses_move⟩
def Y_Field_tick : zY := (⟨"SirenFair$Field", "tick", "()V"⟩, prog_4_method_9_code, 2, none, [])
theorem w_fl_Field_111 : Cond.fieldLink "SirenFair$Field" 111 "SirenFair$Sirens" "count" "I" ∈ zWd := zin 99 (by decide +kernel) rfl
theorem fl_Field_111 : zfl "SirenFair$Field" 111 6 7 (.int) false := ⟨_, _, _, _, zc_Sirens, by decide, w_fl_Field_111, rfl, rfl, rfl⟩
theorem w_c_Field_hearPulses : Cond.code Y_Field_hearPulses.1 Y_Field_hearPulses.2.1 Y_Field_hearPulses.2.2.1 Y_Field_hearPulses.2.2.2.1 ∈ zWd := zin 640 (by decide +kernel) rfl
theorem lk_Field_hearPulses : zlk Y_Field_hearPulses 0 := ⟨w_c_Field_hearPulses, w_ini_Field, by decide +kernel, by decide +kernel, by decide⟩
theorem w_ml_Field_121 : Cond.methodLink "SirenFair$Field" 121 Y_Field_hearPulses.1 ∈ zWd := zin 637 (by decide +kernel) rfl
theorem w_im_Field_hearPulses : Cond.instanceMethod Y_Field_hearPulses.1 ∈ zWd := zin 639 (by decide +kernel) rfl
theorem w_sel_Field_hearPulses : Cond.selects "SirenFair$Field" Y_Field_hearPulses.1 Y_Field_hearPulses.1 ∈ zWd := zin 12 (by decide +kernel) rfl
theorem lkV_Field_121 : zlkV "SirenFair$Field" 121 Y_Field_hearPulses 0 := ⟨lk_Field_hearPulses, w_ml_Field_121, w_im_Field_hearPulses, w_sel_Field_hearPulses⟩
theorem w_c_Hearers_countBeats : Cond.code Y_Hearers_countBeats.1 Y_Hearers_countBeats.2.1 Y_Hearers_countBeats.2.2.1 Y_Hearers_countBeats.2.2.2.1 ∈ zWd := zin 679 (by decide +kernel) rfl
theorem lk_Hearers_countBeats : zlk Y_Hearers_countBeats 0 := ⟨w_c_Hearers_countBeats, w_ini_Hearers, by decide +kernel, by decide +kernel, by decide⟩
theorem w_ml_Field_124 : Cond.methodLink "SirenFair$Field" 124 Y_Hearers_countBeats.1 ∈ zWd := zin 676 (by decide +kernel) rfl
theorem w_im_Hearers_countBeats : Cond.instanceMethod Y_Hearers_countBeats.1 ∈ zWd := zin 677 (by decide +kernel) rfl
theorem w_sel_Hearers_countBeats : Cond.selects "SirenFair$Hearers" Y_Hearers_countBeats.1 Y_Hearers_countBeats.1 ∈ zWd := zin 678 (by decide +kernel) rfl
theorem lkV_Field_124 : zlkV "SirenFair$Field" 124 Y_Hearers_countBeats 0 := ⟨lk_Hearers_countBeats, w_ml_Field_124, w_im_Hearers_countBeats, w_sel_Hearers_countBeats⟩
theorem w_c_Sirens_isDue : Cond.code Y_Sirens_isDue.1 Y_Sirens_isDue.2.1 Y_Sirens_isDue.2.2.1 Y_Sirens_isDue.2.2.2.1 ∈ zWd := zin 612 (by decide +kernel) rfl
theorem lk_Sirens_isDue : zlk Y_Sirens_isDue 2 := ⟨w_c_Sirens_isDue, w_ini_Sirens, by decide +kernel, by decide +kernel, by decide⟩
theorem w_ml_Field_114 : Cond.methodLink "SirenFair$Field" 114 Y_Sirens_isDue.1 ∈ zWd := zin 609 (by decide +kernel) rfl
theorem w_im_Sirens_isDue : Cond.instanceMethod Y_Sirens_isDue.1 ∈ zWd := zin 610 (by decide +kernel) rfl
theorem w_sel_Sirens_isDue : Cond.selects "SirenFair$Sirens" Y_Sirens_isDue.1 Y_Sirens_isDue.1 ∈ zWd := zin 611 (by decide +kernel) rfl
theorem lkV_Field_114 : zlkV "SirenFair$Field" 114 Y_Sirens_isDue 2 := ⟨lk_Sirens_isDue, w_ml_Field_114, w_im_Sirens_isDue, w_sel_Sirens_isDue⟩
theorem w_c_Field_givePulses : Cond.code Y_Field_givePulses.1 Y_Field_givePulses.2.1 Y_Field_givePulses.2.2.1 Y_Field_givePulses.2.2.2.1 ∈ zWd := zin 616 (by decide +kernel) rfl
theorem lk_Field_givePulses : zlk Y_Field_givePulses 1 := ⟨w_c_Field_givePulses, w_ini_Field, by decide +kernel, by decide +kernel, by decide⟩
theorem w_ml_Field_117 : Cond.methodLink "SirenFair$Field" 117 Y_Field_givePulses.1 ∈ zWd := zin 613 (by decide +kernel) rfl
theorem w_im_Field_givePulses : Cond.instanceMethod Y_Field_givePulses.1 ∈ zWd := zin 615 (by decide +kernel) rfl
theorem w_sel_Field_givePulses : Cond.selects "SirenFair$Field" Y_Field_givePulses.1 Y_Field_givePulses.1 ∈ zWd := zin 10 (by decide +kernel) rfl
theorem lkV_Field_117 : zlkV "SirenFair$Field" 117 Y_Field_givePulses 1 := ⟨lk_Field_givePulses, w_ml_Field_117, w_im_Field_givePulses, w_sel_Field_givePulses⟩
theorem w_c_Sirens_goOn : Cond.code Y_Sirens_goOn.1 Y_Sirens_goOn.2.1 Y_Sirens_goOn.2.2.1 Y_Sirens_goOn.2.2.2.1 ∈ zWd := zin 591 (by decide +kernel) rfl
theorem lk_Sirens_goOn : zlk Y_Sirens_goOn 0 := ⟨w_c_Sirens_goOn, w_ini_Sirens, by decide +kernel, by decide +kernel, by decide⟩
theorem w_ml_Field_105 : Cond.methodLink "SirenFair$Field" 105 Y_Sirens_goOn.1 ∈ zWd := zin 588 (by decide +kernel) rfl
theorem w_im_Sirens_goOn : Cond.instanceMethod Y_Sirens_goOn.1 ∈ zWd := zin 589 (by decide +kernel) rfl
theorem w_sel_Sirens_goOn : Cond.selects "SirenFair$Sirens" Y_Sirens_goOn.1 Y_Sirens_goOn.1 ∈ zWd := zin 590 (by decide +kernel) rfl
theorem lkV_Field_105 : zlkV "SirenFair$Field" 105 Y_Sirens_goOn 0 := ⟨lk_Sirens_goOn, w_ml_Field_105, w_im_Sirens_goOn, w_sel_Sirens_goOn⟩
theorem w_c_Hearers_walkOn : Cond.code Y_Hearers_walkOn.1 Y_Hearers_walkOn.2.1 Y_Hearers_walkOn.2.2.1 Y_Hearers_walkOn.2.2.2.1 ∈ zWd := zin 599 (by decide +kernel) rfl
theorem lk_Hearers_walkOn : zlk Y_Hearers_walkOn 0 := ⟨w_c_Hearers_walkOn, w_ini_Hearers, by decide +kernel, by decide +kernel, by decide⟩
theorem w_ml_Field_108 : Cond.methodLink "SirenFair$Field" 108 Y_Hearers_walkOn.1 ∈ zWd := zin 596 (by decide +kernel) rfl
theorem w_im_Hearers_walkOn : Cond.instanceMethod Y_Hearers_walkOn.1 ∈ zWd := zin 597 (by decide +kernel) rfl
theorem w_sel_Hearers_walkOn : Cond.selects "SirenFair$Hearers" Y_Hearers_walkOn.1 Y_Hearers_walkOn.1 ∈ zWd := zin 598 (by decide +kernel) rfl
theorem lkV_Field_108 : zlkV "SirenFair$Field" 108 Y_Hearers_walkOn 0 := ⟨lk_Hearers_walkOn, w_ml_Field_108, w_im_Hearers_walkOn, w_sel_Hearers_walkOn⟩
def Y_Field_pass : zY := (⟨"SirenFair$Field", "pass", "(I)V"⟩, prog_4_method_7_code, 3, none, [])
theorem w_c_Field_tick : Cond.code Y_Field_tick.1 Y_Field_tick.2.1 Y_Field_tick.2.2.1 Y_Field_tick.2.2.2.1 ∈ zWd := zin 587 (by decide +kernel) rfl
theorem lk_Field_tick : zlk Y_Field_tick 0 := ⟨w_c_Field_tick, w_ini_Field, by decide +kernel, by decide +kernel, by decide⟩
theorem w_ml_Field_99 : Cond.methodLink "SirenFair$Field" 99 Y_Field_tick.1 ∈ zWd := zin 584 (by decide +kernel) rfl
theorem w_im_Field_tick : Cond.instanceMethod Y_Field_tick.1 ∈ zWd := zin 585 (by decide +kernel) rfl
theorem w_sel_Field_tick : Cond.selects "SirenFair$Field" Y_Field_tick.1 Y_Field_tick.1 ∈ zWd := zin 586 (by decide +kernel) rfl
theorem lkV_Field_99 : zlkV "SirenFair$Field" 99 Y_Field_tick 0 := ⟨lk_Field_tick, w_ml_Field_99, w_im_Field_tick, w_sel_Field_tick⟩
def Y_Field_isLateWithin : zY := (⟨"SirenFair$Field", "isLateWithin", "(I)Z"⟩, prog_4_method_8_code, 4, some .boolean, [])
theorem w_fl_Field_102 : Cond.fieldLink "SirenFair$Field" 102 "SirenFair$Ears" "allLate" "I" ∈ zWd := zin 254 (by decide +kernel) rfl
theorem fl_Field_102 : zfl "SirenFair$Field" 102 1 8 (.int) false := ⟨_, _, _, _, zc_Ears, by decide, w_fl_Field_102, rfl, rfl, rfl⟩
theorem d_SF_isWithin_0 : decode Y_SF_isWithin.2.1 0 = .ok (.iload_n 0, 1) := by decide +kernel
theorem d_SF_isWithin_1 : decode Y_SF_isWithin.2.1 1 = .ok (.iload_n 1, 1) := by decide +kernel
theorem d_SF_isWithin_2 : decode Y_SF_isWithin.2.1 2 = .ok (.if_icmp .lt (12), 3) := by decide +kernel
theorem d_SF_isWithin_5 : decode Y_SF_isWithin.2.1 5 = .ok (.iload_n 0, 1) := by decide +kernel
theorem d_SF_isWithin_6 : decode Y_SF_isWithin.2.1 6 = .ok (.iload_n 2, 1) := by decide +kernel
theorem d_SF_isWithin_7 : decode Y_SF_isWithin.2.1 7 = .ok (.if_icmp .gt (7), 3) := by decide +kernel
theorem d_SF_isWithin_10 : decode Y_SF_isWithin.2.1 10 = .ok (.iconst (1), 1) := by decide +kernel
theorem d_SF_isWithin_11 : decode Y_SF_isWithin.2.1 11 = .ok (.goto (4), 3) := by decide +kernel
theorem d_SF_isWithin_14 : decode Y_SF_isWithin.2.1 14 = .ok (.iconst (0), 1) := by decide +kernel
theorem d_SF_isWithin_15 : decode Y_SF_isWithin.2.1 15 = .ok (.ireturn, 1) := by decide +kernel
def f_SF_isWithin (w : zW) (D : zD) (x0 : Int32) (x1 : Int32) (x2 : Int32) : Option (Int32 × zD) := zjp (fun (s0 : Int32) (D1 : zD) => zchk (s0 = 0 ∨ s0 = 1) (some (s0, D1))) (fun j15 => zjp (fun (D2 : zD) => j15 (0 : Int32) D2) (fun j14 => (if x0 < x1 then j14 D else (if x2 < x0 then j14 D else j15 (1 : Int32) D))))
set_option maxHeartbeats 4000000 in
set_option maxRecDepth 100000 in
theorem c_SF_isWithin (z : zT) (D : zD) (x0 : Int32) (x1 : Int32) (x2 : Int32) : zM Y_SF_isWithin 1 0 0 (zqI z) (f_SF_isWithin z.2 D x0 x1 x2) [.int x0, .int x1, .int x2] z D := by
  refine zM_of (plainFor_of_name (by decide +kernel)) rfl (Nat.le_of_ble_eq_true rfl) (fun _ _ _ _ h => nomatch h.1) (fun K => ?_)
  unfold f_SF_isWithin
  refine z_jp (fun j15 : Int32 → zD → Option (Int32 × zD) => ∀ (s0 : Int32) (D1 : zD), zGO K Y_SF_isWithin 1 0 0 (zqI z) (j15 s0 D1) 0 0 z D1 15 [] [.int s0]) (fun s0 D1 => ?_) (fun j15 h15 => ?_)
  · exact z_zret (pc := 15) d_SF_isWithin_15 rfl
  · refine z_jp (fun j14 : zD → Option (Int32 × zD) => ∀ (D2 : zD), zGO K Y_SF_isWithin 1 0 0 (zqI z) (j14  D2) 0 0 z D2 14 [] []) (fun  D2 => ?_) (fun j14 h14 => ?_)
    · refine z_iconst (pc := 14) d_SF_isWithin_14 ki_0 ?_
      exact z_sub [] rfl (h15 (0 : Int32) D2)
    · refine z_iload_n (pc := 0) d_SF_isWithin_0 rfl 0 rfl ?_
      refine z_iload_n (pc := 1) d_SF_isWithin_1 rfl 1 rfl ?_
      refine z_icmp_lt (pc := 2) (tgt := 14) d_SF_isWithin_2 (by decide) ?_ ?_
      · exact z_sub [] rfl (h14 D)
      · refine z_iload_n (pc := 5) d_SF_isWithin_5 rfl 0 rfl ?_
        refine z_iload_n (pc := 6) d_SF_isWithin_6 rfl 2 rfl ?_
        refine z_icmp_gt (pc := 7) (tgt := 14) d_SF_isWithin_7 (by decide) ?_ ?_
        · exact z_sub [] rfl (h14 D)
        · refine z_iconst (pc := 10) d_SF_isWithin_10 ki_1 ?_
          refine z_goto (pc := 11) (tgt := 15) d_SF_isWithin_11 (by decide) ?_
          exact z_sub [] rfl (h15 (1 : Int32) D)
theorem d_Field_change_0 : decode Y_Field_change.2.1 0 = .ok (.iload_n 1, 1) := by decide +kernel
theorem d_Field_change_1 : decode Y_Field_change.2.1 1 = .ok (.ifCond .ne (10), 3) := by decide +kernel
theorem d_Field_change_4 : decode Y_Field_change.2.1 4 = .ok (.aload_n 0, 1) := by decide +kernel
theorem d_Field_change_5 : decode Y_Field_change.2.1 5 = .ok (.getfield 46, 3) := by decide +kernel
theorem d_Field_change_8 : decode Y_Field_change.2.1 8 = .ok (.goto (7), 3) := by decide +kernel
theorem d_Field_change_11 : decode Y_Field_change.2.1 11 = .ok (.aload_n 0, 1) := by decide +kernel
theorem d_Field_change_12 : decode Y_Field_change.2.1 12 = .ok (.getfield 50, 3) := by decide +kernel
theorem d_Field_change_15 : decode Y_Field_change.2.1 15 = .ok (.istore_n 3, 1) := by decide +kernel
theorem d_Field_change_16 : decode Y_Field_change.2.1 16 = .ok (.iload_n 1, 1) := by decide +kernel
theorem d_Field_change_17 : decode Y_Field_change.2.1 17 = .ok (.ifCond .ne (11), 3) := by decide +kernel
theorem d_Field_change_20 : decode Y_Field_change.2.1 20 = .ok (.aload_n 0, 1) := by decide +kernel
theorem d_Field_change_21 : decode Y_Field_change.2.1 21 = .ok (.iload_n 2, 1) := by decide +kernel
theorem d_Field_change_22 : decode Y_Field_change.2.1 22 = .ok (.putfield 46, 3) := by decide +kernel
theorem d_Field_change_25 : decode Y_Field_change.2.1 25 = .ok (.goto (8), 3) := by decide +kernel
theorem d_Field_change_28 : decode Y_Field_change.2.1 28 = .ok (.aload_n 0, 1) := by decide +kernel
theorem d_Field_change_29 : decode Y_Field_change.2.1 29 = .ok (.iload_n 2, 1) := by decide +kernel
theorem d_Field_change_30 : decode Y_Field_change.2.1 30 = .ok (.putfield 50, 3) := by decide +kernel
theorem d_Field_change_33 : decode Y_Field_change.2.1 33 = .ok (.iload_n 3, 1) := by decide +kernel
theorem d_Field_change_34 : decode Y_Field_change.2.1 34 = .ok (.ireturn, 1) := by decide +kernel
def f_Field_change (w : zW) (D : zD) (a : Nat) (x1 : Int32) (x2 : Int32) : Option (Int32 × zD) := zjp (fun (s0 : Int32) (D1 : zD) => zjp (fun (x3 : Int32) (D2 : zD) => some (x3, D2)) (fun j33 => (if x1 = 0 then zput w D1 3 7 a x2 (fun D4 => j33 s0 D4) else zput w D1 3 8 a x2 (fun D3 => j33 s0 D3)))) (fun j15 => (if x1 = 0 then zfld w D 3 7 a (fun v6 => j15 v6 D) else zfld w D 3 8 a (fun v5 => j15 v5 D)))
set_option maxHeartbeats 4000000 in
set_option maxRecDepth 100000 in
theorem c_Field_change (z : zT) (D : zD) (a : Nat) (x1 : Int32) (x2 : Int32) : zM Y_Field_change 1 0 0 (zqI z) (f_Field_change z.2 D a x1 x2) [.ref a, .int x1, .int x2] z D := by
  refine zM_of (plainFor_of_name (by decide +kernel)) rfl (Nat.le_of_ble_eq_true rfl) (fun _ _ _ _ h => nomatch h.1) (fun K => ?_)
  unfold f_Field_change
  refine z_jp (fun j15 : Int32 → zD → Option (Int32 × zD) => ∀ (s0 : Int32) (D1 : zD), zGO K Y_Field_change 1 0 0 (zqI z) (j15 s0 D1) 0 0 z D1 15 [(0, .ref a), (1, .int x1), (2, .int x2)] [.int s0]) (fun s0 D1 => ?_) (fun j15 h15 => ?_)
  · refine z_jp (fun j33 : Int32 → zD → Option (Int32 × zD) => ∀ (x3 : Int32) (D2 : zD), zGO K Y_Field_change 1 0 0 (zqI z) (j33 x3 D2) 0 0 z D2 33 [(3, .int x3)] []) (fun x3 D2 => ?_) (fun j33 h33 => ?_)
    · refine z_iload_n (pc := 33) d_Field_change_33 rfl 0 rfl ?_
      exact z_iret (pc := 34) d_Field_change_34 rfl
    · refine z_istore_n (pc := 15) d_Field_change_15 rfl (by decide) (lv' := [(3, .int s0), (0, .ref a), (1, .int x1), (2, .int x2)]) rfl ?_
      refine z_iload_n (pc := 16) d_Field_change_16 rfl 2 rfl ?_
      refine z_if_ne (pc := 17) (tgt := 28) d_Field_change_17 (by decide) ?_ ?_
      · refine z_aload_n (pc := 20) d_Field_change_20 rfl 1 rfl ?_
        refine z_iload_n (pc := 21) d_Field_change_21 rfl 3 rfl ?_
        refine z_putI (pc := 22) fl_Field_46 d_Field_change_22 (fun D4 => ?_)
        refine z_goto (pc := 25) (tgt := 33) d_Field_change_25 (by decide) ?_
        exact z_sub [0] rfl (h33 s0 D4)
      · refine z_aload_n (pc := 28) d_Field_change_28 rfl 1 rfl ?_
        refine z_iload_n (pc := 29) d_Field_change_29 rfl 3 rfl ?_
        refine z_putI (pc := 30) fl_Field_50 d_Field_change_30 (fun D3 => ?_)
        exact z_sub [0] rfl (h33 s0 D3)
  · refine z_iload_n (pc := 0) d_Field_change_0 rfl 1 rfl ?_
    refine z_if_ne (pc := 1) (tgt := 11) d_Field_change_1 (by decide) ?_ ?_
    · refine z_aload_n (pc := 4) d_Field_change_4 rfl 0 rfl ?_
      refine z_getI (pc := 5) fl_Field_46 d_Field_change_5 (fun v6 => ?_)
      refine z_goto (pc := 8) (tgt := 15) d_Field_change_8 (by decide) ?_
      exact z_sub [0, 1, 2] rfl (h15 v6 D)
    · refine z_aload_n (pc := 11) d_Field_change_11 rfl 0 rfl ?_
      refine z_getI (pc := 12) fl_Field_50 d_Field_change_12 (fun v5 => ?_)
      exact z_sub [0, 1, 2] rfl (h15 v5 D)
theorem d_Field_isGone_0 : decode Y_Field_isGone.2.1 0 = .ok (.iconst (1), 1) := by decide +kernel
theorem d_Field_isGone_1 : decode Y_Field_isGone.2.1 1 = .ok (.aload_n 0, 1) := by decide +kernel
theorem d_Field_isGone_2 : decode Y_Field_isGone.2.1 2 = .ok (.getfield 21, 3) := by decide +kernel
theorem d_Field_isGone_5 : decode Y_Field_isGone.2.1 5 = .ok (.getfield 178, 3) := by decide +kernel
theorem d_Field_isGone_8 : decode Y_Field_isGone.2.1 8 = .ok (.ishl, 1) := by decide +kernel
theorem d_Field_isGone_9 : decode Y_Field_isGone.2.1 9 = .ok (.iconst (1), 1) := by decide +kernel
theorem d_Field_isGone_10 : decode Y_Field_isGone.2.1 10 = .ok (.isub, 1) := by decide +kernel
theorem d_Field_isGone_11 : decode Y_Field_isGone.2.1 11 = .ok (.istore_n 2, 1) := by decide +kernel
theorem d_Field_isGone_12 : decode Y_Field_isGone.2.1 12 = .ok (.aload_n 0, 1) := by decide +kernel
theorem d_Field_isGone_13 : decode Y_Field_isGone.2.1 13 = .ok (.getfield 21, 3) := by decide +kernel
theorem d_Field_isGone_16 : decode Y_Field_isGone.2.1 16 = .ok (.getfield 178, 3) := by decide +kernel
theorem d_Field_isGone_19 : decode Y_Field_isGone.2.1 19 = .ok (.ifCond .le (16), 3) := by decide +kernel
theorem d_Field_isGone_22 : decode Y_Field_isGone.2.1 22 = .ok (.aload_n 0, 1) := by decide +kernel
theorem d_Field_isGone_23 : decode Y_Field_isGone.2.1 23 = .ok (.getfield 35, 3) := by decide +kernel
theorem d_Field_isGone_26 : decode Y_Field_isGone.2.1 26 = .ok (.getfield 179, 3) := by decide +kernel
theorem d_Field_isGone_29 : decode Y_Field_isGone.2.1 29 = .ok (.iload_n 1, 1) := by decide +kernel
theorem d_Field_isGone_30 : decode Y_Field_isGone.2.1 30 = .ok (.iaload, 1) := by decide +kernel
theorem d_Field_isGone_31 : decode Y_Field_isGone.2.1 31 = .ok (.iload_n 2, 1) := by decide +kernel
theorem d_Field_isGone_32 : decode Y_Field_isGone.2.1 32 = .ok (.if_icmp .eq (24), 3) := by decide +kernel
theorem d_Field_isGone_35 : decode Y_Field_isGone.2.1 35 = .ok (.aload_n 0, 1) := by decide +kernel
theorem d_Field_isGone_36 : decode Y_Field_isGone.2.1 36 = .ok (.getfield 69, 3) := by decide +kernel
theorem d_Field_isGone_39 : decode Y_Field_isGone.2.1 39 = .ok (.aload_n 0, 1) := by decide +kernel
theorem d_Field_isGone_40 : decode Y_Field_isGone.2.1 40 = .ok (.getfield 35, 3) := by decide +kernel
theorem d_Field_isGone_43 : decode Y_Field_isGone.2.1 43 = .ok (.getfield 176, 3) := by decide +kernel
theorem d_Field_isGone_46 : decode Y_Field_isGone.2.1 46 = .ok (.iload_n 1, 1) := by decide +kernel
theorem d_Field_isGone_47 : decode Y_Field_isGone.2.1 47 = .ok (.iaload, 1) := by decide +kernel
theorem d_Field_isGone_48 : decode Y_Field_isGone.2.1 48 = .ok (.isub, 1) := by decide +kernel
theorem d_Field_isGone_49 : decode Y_Field_isGone.2.1 49 = .ok (.aload_n 0, 1) := by decide +kernel
theorem d_Field_isGone_50 : decode Y_Field_isGone.2.1 50 = .ok (.getfield 50, 3) := by decide +kernel
theorem d_Field_isGone_53 : decode Y_Field_isGone.2.1 53 = .ok (.if_icmp .lt (7), 3) := by decide +kernel
theorem d_Field_isGone_56 : decode Y_Field_isGone.2.1 56 = .ok (.iconst (1), 1) := by decide +kernel
theorem d_Field_isGone_57 : decode Y_Field_isGone.2.1 57 = .ok (.goto (4), 3) := by decide +kernel
theorem d_Field_isGone_60 : decode Y_Field_isGone.2.1 60 = .ok (.iconst (0), 1) := by decide +kernel
theorem d_Field_isGone_61 : decode Y_Field_isGone.2.1 61 = .ok (.ireturn, 1) := by decide +kernel
def f_Field_isGone (w : zW) (D : zD) (a : Nat) (x1 : Int32) : Option (Int32 × zD) := zjp (fun (s0 : Int32) (D1 : zD) => zchk (s0 = 0 ∨ s0 = 1) (some (s0, D1))) (fun j61 => zjp (fun (D2 : zD) => j61 (1 : Int32) D2) (fun j56 => zjp (fun (D3 : zD) => zfld w D3 3 5 a (fun v4 => zref w 3 3 a (fun p5 => zref w 5 3 p5 (fun p6 => zald w D3 0 p6 x1 (fun v7 => zfld w D3 3 8 a (fun v8 => (if (v4 - v7) < v8 then j61 (0 : Int32) D3 else j56 D3))))))) (fun j35 => zref w 3 1 a (fun p9 => zfld w D 4 6 p9 (fun v10 => zlet (((1 : Int32) <<< (v10 &&& 31)) - (1 : Int32)) (fun v11 => zref w 3 1 a (fun p12 => zfld w D 4 6 p12 (fun v13 => (if v13 ≤ 0 then j35 D else zref w 3 3 a (fun p14 => zref w 5 5 p14 (fun p15 => zald w D 0 p15 x1 (fun v16 => (if v16 = v11 then j56 D else j35 D)))))))))))))
set_option maxHeartbeats 4000000 in
set_option maxRecDepth 100000 in
theorem c_Field_isGone (z : zT) (D : zD) (a : Nat) (x1 : Int32) : zM Y_Field_isGone 1 0 0 (zqI z) (f_Field_isGone z.2 D a x1) [.ref a, .int x1] z D := by
  refine zM_of (plainFor_of_name (by decide +kernel)) rfl (Nat.le_of_ble_eq_true rfl) (fun _ _ _ _ h => nomatch h.1) (fun K => ?_)
  unfold f_Field_isGone
  refine z_jp (fun j61 : Int32 → zD → Option (Int32 × zD) => ∀ (s0 : Int32) (D1 : zD), zGO K Y_Field_isGone 1 0 0 (zqI z) (j61 s0 D1) 0 0 z D1 61 [] [.int s0]) (fun s0 D1 => ?_) (fun j61 h61 => ?_)
  · exact z_zret (pc := 61) d_Field_isGone_61 rfl
  · refine z_jp (fun j56 : zD → Option (Int32 × zD) => ∀ (D2 : zD), zGO K Y_Field_isGone 1 0 0 (zqI z) (j56  D2) 0 0 z D2 56 [] []) (fun  D2 => ?_) (fun j56 h56 => ?_)
    · refine z_iconst (pc := 56) d_Field_isGone_56 ki_1 ?_
      refine z_goto (pc := 57) (tgt := 61) d_Field_isGone_57 (by decide) ?_
      exact z_sub [] rfl (h61 (1 : Int32) D2)
    · refine z_jp (fun j35 : zD → Option (Int32 × zD) => ∀ (D3 : zD), zGO K Y_Field_isGone 1 0 0 (zqI z) (j35  D3) 0 0 z D3 35 [(0, .ref a), (1, .int x1)] []) (fun  D3 => ?_) (fun j35 h35 => ?_)
      · refine z_aload_n (pc := 35) d_Field_isGone_35 rfl 0 rfl ?_
        refine z_getI (pc := 36) fl_Field_69 d_Field_isGone_36 (fun v4 => ?_)
        refine z_aload_n (pc := 39) d_Field_isGone_39 rfl 0 rfl ?_
        refine z_getR (pc := 40) fl_Field_35 d_Field_isGone_40 (fun p5 => ?_)
        refine z_getR (pc := 43) fl_Field_176 d_Field_isGone_43 (fun p6 => ?_)
        refine z_iload_n (pc := 46) d_Field_isGone_46 rfl 1 rfl ?_
        refine z_iaload (pc := 47) d_Field_isGone_47 (fun v7 => ?_)
        refine z_isub (pc := 48) d_Field_isGone_48 ?_
        refine z_aload_n (pc := 49) d_Field_isGone_49 rfl 0 rfl ?_
        refine z_getI (pc := 50) fl_Field_50 d_Field_isGone_50 (fun v8 => ?_)
        refine z_icmp_lt (pc := 53) (tgt := 60) d_Field_isGone_53 (by decide) ?_ ?_
        · refine z_iconst (pc := 60) d_Field_isGone_60 ki_0 ?_
          exact z_sub [] rfl (h61 (0 : Int32) D3)
        · exact z_sub [] rfl (h56 D3)
      · refine z_iconst (pc := 0) d_Field_isGone_0 ki_1 ?_
        refine z_aload_n (pc := 1) d_Field_isGone_1 rfl 0 rfl ?_
        refine z_getR (pc := 2) fl_Field_21 d_Field_isGone_2 (fun p9 => ?_)
        refine z_getI (pc := 5) fl_Field_178 d_Field_isGone_5 (fun v10 => ?_)
        refine z_ishl (pc := 8) d_Field_isGone_8 ?_
        refine z_iconst (pc := 9) d_Field_isGone_9 ki_1 ?_
        refine z_isub (pc := 10) d_Field_isGone_10 ?_
        refine z_leti (fun v11 => ?_)
        refine z_istore_n (pc := 11) d_Field_isGone_11 rfl (by decide) (lv' := [(2, .int v11), (0, .ref a), (1, .int x1)]) rfl ?_
        refine z_aload_n (pc := 12) d_Field_isGone_12 rfl 1 rfl ?_
        refine z_getR (pc := 13) fl_Field_21 d_Field_isGone_13 (fun p12 => ?_)
        refine z_getI (pc := 16) fl_Field_178 d_Field_isGone_16 (fun v13 => ?_)
        refine z_if_le (pc := 19) (tgt := 35) d_Field_isGone_19 (by decide) ?_ ?_
        · exact z_sub [1, 2] rfl (h35 D)
        · refine z_aload_n (pc := 22) d_Field_isGone_22 rfl 1 rfl ?_
          refine z_getR (pc := 23) fl_Field_35 d_Field_isGone_23 (fun p14 => ?_)
          refine z_getR (pc := 26) fl_Field_179 d_Field_isGone_26 (fun p15 => ?_)
          refine z_iload_n (pc := 29) d_Field_isGone_29 rfl 2 rfl ?_
          refine z_iaload (pc := 30) d_Field_isGone_30 (fun v16 => ?_)
          refine z_iload_n (pc := 31) d_Field_isGone_31 rfl 0 rfl ?_
          refine z_icmp_eq (pc := 32) (tgt := 56) d_Field_isGone_32 (by decide) ?_ ?_
          · exact z_sub [] rfl (h56 D)
          · exact z_sub [1, 2] rfl (h35 D)
theorem d_Field_copyFrom_0 : decode Y_Field_copyFrom.2.1 0 = .ok (.aload_n 0, 1) := by decide +kernel
theorem d_Field_copyFrom_1 : decode Y_Field_copyFrom.2.1 1 = .ok (.getfield 12, 3) := by decide +kernel
theorem d_Field_copyFrom_4 : decode Y_Field_copyFrom.2.1 4 = .ok (.aload_n 1, 1) := by decide +kernel
theorem d_Field_copyFrom_5 : decode Y_Field_copyFrom.2.1 5 = .ok (.getfield 12, 3) := by decide +kernel
theorem d_Field_copyFrom_8 : decode Y_Field_copyFrom.2.1 8 = .ok (.invokevirtual 53, 3) := by decide +kernel
theorem d_Field_copyFrom_11 : decode Y_Field_copyFrom.2.1 11 = .ok (.aload_n 0, 1) := by decide +kernel
theorem d_Field_copyFrom_12 : decode Y_Field_copyFrom.2.1 12 = .ok (.getfield 21, 3) := by decide +kernel
theorem d_Field_copyFrom_15 : decode Y_Field_copyFrom.2.1 15 = .ok (.aload_n 1, 1) := by decide +kernel
theorem d_Field_copyFrom_16 : decode Y_Field_copyFrom.2.1 16 = .ok (.getfield 21, 3) := by decide +kernel
theorem d_Field_copyFrom_19 : decode Y_Field_copyFrom.2.1 19 = .ok (.invokevirtual 57, 3) := by decide +kernel
theorem d_Field_copyFrom_22 : decode Y_Field_copyFrom.2.1 22 = .ok (.aload_n 0, 1) := by decide +kernel
theorem d_Field_copyFrom_23 : decode Y_Field_copyFrom.2.1 23 = .ok (.getfield 28, 3) := by decide +kernel
theorem d_Field_copyFrom_26 : decode Y_Field_copyFrom.2.1 26 = .ok (.aload_n 1, 1) := by decide +kernel
theorem d_Field_copyFrom_27 : decode Y_Field_copyFrom.2.1 27 = .ok (.getfield 28, 3) := by decide +kernel
theorem d_Field_copyFrom_30 : decode Y_Field_copyFrom.2.1 30 = .ok (.invokevirtual 60, 3) := by decide +kernel
theorem d_Field_copyFrom_33 : decode Y_Field_copyFrom.2.1 33 = .ok (.aload_n 0, 1) := by decide +kernel
theorem d_Field_copyFrom_34 : decode Y_Field_copyFrom.2.1 34 = .ok (.getfield 35, 3) := by decide +kernel
theorem d_Field_copyFrom_37 : decode Y_Field_copyFrom.2.1 37 = .ok (.aload_n 1, 1) := by decide +kernel
theorem d_Field_copyFrom_38 : decode Y_Field_copyFrom.2.1 38 = .ok (.getfield 35, 3) := by decide +kernel
theorem d_Field_copyFrom_41 : decode Y_Field_copyFrom.2.1 41 = .ok (.invokevirtual 63, 3) := by decide +kernel
theorem d_Field_copyFrom_44 : decode Y_Field_copyFrom.2.1 44 = .ok (.aload_n 0, 1) := by decide +kernel
theorem d_Field_copyFrom_45 : decode Y_Field_copyFrom.2.1 45 = .ok (.getfield 42, 3) := by decide +kernel
theorem d_Field_copyFrom_48 : decode Y_Field_copyFrom.2.1 48 = .ok (.aload_n 1, 1) := by decide +kernel
theorem d_Field_copyFrom_49 : decode Y_Field_copyFrom.2.1 49 = .ok (.getfield 42, 3) := by decide +kernel
theorem d_Field_copyFrom_52 : decode Y_Field_copyFrom.2.1 52 = .ok (.invokevirtual 66, 3) := by decide +kernel
theorem d_Field_copyFrom_55 : decode Y_Field_copyFrom.2.1 55 = .ok (.aload_n 0, 1) := by decide +kernel
theorem d_Field_copyFrom_56 : decode Y_Field_copyFrom.2.1 56 = .ok (.aload_n 1, 1) := by decide +kernel
theorem d_Field_copyFrom_57 : decode Y_Field_copyFrom.2.1 57 = .ok (.getfield 69, 3) := by decide +kernel
theorem d_Field_copyFrom_60 : decode Y_Field_copyFrom.2.1 60 = .ok (.putfield 69, 3) := by decide +kernel
theorem d_Field_copyFrom_63 : decode Y_Field_copyFrom.2.1 63 = .ok (.aload_n 0, 1) := by decide +kernel
theorem d_Field_copyFrom_64 : decode Y_Field_copyFrom.2.1 64 = .ok (.aload_n 1, 1) := by decide +kernel
theorem d_Field_copyFrom_65 : decode Y_Field_copyFrom.2.1 65 = .ok (.getfield 72, 3) := by decide +kernel
theorem d_Field_copyFrom_68 : decode Y_Field_copyFrom.2.1 68 = .ok (.putfield 72, 3) := by decide +kernel
theorem d_Field_copyFrom_71 : decode Y_Field_copyFrom.2.1 71 = .ok (.aload_n 0, 1) := by decide +kernel
theorem d_Field_copyFrom_72 : decode Y_Field_copyFrom.2.1 72 = .ok (.aload_n 1, 1) := by decide +kernel
theorem d_Field_copyFrom_73 : decode Y_Field_copyFrom.2.1 73 = .ok (.getfield 46, 3) := by decide +kernel
theorem d_Field_copyFrom_76 : decode Y_Field_copyFrom.2.1 76 = .ok (.putfield 46, 3) := by decide +kernel
theorem d_Field_copyFrom_79 : decode Y_Field_copyFrom.2.1 79 = .ok (.aload_n 0, 1) := by decide +kernel
theorem d_Field_copyFrom_80 : decode Y_Field_copyFrom.2.1 80 = .ok (.aload_n 1, 1) := by decide +kernel
theorem d_Field_copyFrom_81 : decode Y_Field_copyFrom.2.1 81 = .ok (.getfield 50, 3) := by decide +kernel
theorem d_Field_copyFrom_84 : decode Y_Field_copyFrom.2.1 84 = .ok (.putfield 50, 3) := by decide +kernel
theorem d_Field_copyFrom_87 : decode Y_Field_copyFrom.2.1 87 = .ok (.return_, 1) := by decide +kernel
def f_Field_copyFrom (w : zW) (D : zD) (a : Nat) (r1 : Nat) : Option (zD) := zref w 3 0 a (fun p1 => zref w 3 0 r1 (fun p2 => zobj w 6 p1 (zcv (f_Sirens_copyFrom w D p1 p2) (fun D3 => zref w 3 1 a (fun p4 => zref w 3 1 r1 (fun p5 => zobj w 4 p4 (zcv (f_Hearers_copyFrom w D3 p4 p5) (fun D6 => zref w 3 2 a (fun p7 => zref w 3 2 r1 (fun p8 => zobj w 7 p7 (zcv (f_Walls_copyFrom w D6 p7 p8) (fun D9 => zref w 3 3 a (fun p10 => zref w 3 3 r1 (fun p11 => zobj w 5 p10 (zcv (f_Pulses_copyFrom w D9 p10 p11) (fun D12 => zref w 3 4 a (fun p13 => zref w 3 4 r1 (fun p14 => zobj w 1 p13 (zcv (f_Ears_copyFrom w D12 p13 p14) (fun D15 => zfld w D15 3 5 r1 (fun v16 => zput w D15 3 5 a v16 (fun D17 => zfld w D17 3 6 r1 (fun v18 => zput w D17 3 6 a v18 (fun D19 => zfld w D19 3 7 r1 (fun v20 => zput w D19 3 7 a v20 (fun D21 => zfld w D21 3 8 r1 (fun v22 => zput w D21 3 8 a v22 (fun D23 => some D23))))))))))))))))))))))))))))
set_option maxHeartbeats 4000000 in
set_option maxRecDepth 100000 in
theorem c_Field_copyFrom (z : zT) (D : zD) (a : Nat) (r1 : Nat) : zM Y_Field_copyFrom 2 0 0 (zqV z) (f_Field_copyFrom z.2 D a r1) [.ref a, .ref r1] z D := by
  refine zM_of (plainFor_of_name (by decide +kernel)) rfl (Nat.le_of_ble_eq_true rfl) (fun _ _ _ _ h => nomatch h.1) (fun K => ?_)
  unfold f_Field_copyFrom
  refine z_aload_n (pc := 0) d_Field_copyFrom_0 rfl 0 rfl ?_
  refine z_getR (pc := 1) fl_Field_12 d_Field_copyFrom_1 (fun p1 => ?_)
  refine z_aload_n (pc := 4) d_Field_copyFrom_4 rfl 1 rfl ?_
  refine z_getR (pc := 5) fl_Field_12 d_Field_copyFrom_5 (fun p2 => ?_)
  refine z_callVv (pc := 8) [.ref p2] lkV_Field_53 rfl (c_Sirens_copyFrom z D p1 p2) (by decide) rfl rfl (Nat.le_of_ble_eq_true rfl) d_Field_copyFrom_8 (fun D3 => ?_)
  refine z_aload_n (pc := 11) d_Field_copyFrom_11 rfl 0 rfl ?_
  refine z_getR (pc := 12) fl_Field_21 d_Field_copyFrom_12 (fun p4 => ?_)
  refine z_aload_n (pc := 15) d_Field_copyFrom_15 rfl 1 rfl ?_
  refine z_getR (pc := 16) fl_Field_21 d_Field_copyFrom_16 (fun p5 => ?_)
  refine z_callVv (pc := 19) [.ref p5] lkV_Field_57 rfl (c_Hearers_copyFrom z D3 p4 p5) (by decide) rfl rfl (Nat.le_of_ble_eq_true rfl) d_Field_copyFrom_19 (fun D6 => ?_)
  refine z_aload_n (pc := 22) d_Field_copyFrom_22 rfl 0 rfl ?_
  refine z_getR (pc := 23) fl_Field_28 d_Field_copyFrom_23 (fun p7 => ?_)
  refine z_aload_n (pc := 26) d_Field_copyFrom_26 rfl 1 rfl ?_
  refine z_getR (pc := 27) fl_Field_28 d_Field_copyFrom_27 (fun p8 => ?_)
  refine z_callVv (pc := 30) [.ref p8] lkV_Field_60 rfl (c_Walls_copyFrom z D6 p7 p8) (by decide) rfl rfl (Nat.le_of_ble_eq_true rfl) d_Field_copyFrom_30 (fun D9 => ?_)
  refine z_aload_n (pc := 33) d_Field_copyFrom_33 rfl 0 rfl ?_
  refine z_getR (pc := 34) fl_Field_35 d_Field_copyFrom_34 (fun p10 => ?_)
  refine z_aload_n (pc := 37) d_Field_copyFrom_37 rfl 1 rfl ?_
  refine z_getR (pc := 38) fl_Field_35 d_Field_copyFrom_38 (fun p11 => ?_)
  refine z_callVv (pc := 41) [.ref p11] lkV_Field_63 rfl (c_Pulses_copyFrom z D9 p10 p11) (by decide) rfl rfl (Nat.le_of_ble_eq_true rfl) d_Field_copyFrom_41 (fun D12 => ?_)
  refine z_aload_n (pc := 44) d_Field_copyFrom_44 rfl 0 rfl ?_
  refine z_getR (pc := 45) fl_Field_42 d_Field_copyFrom_45 (fun p13 => ?_)
  refine z_aload_n (pc := 48) d_Field_copyFrom_48 rfl 1 rfl ?_
  refine z_getR (pc := 49) fl_Field_42 d_Field_copyFrom_49 (fun p14 => ?_)
  refine z_callVv (pc := 52) [.ref p14] lkV_Field_66 rfl (c_Ears_copyFrom z D12 p13 p14) (by decide) rfl rfl (Nat.le_of_ble_eq_true rfl) d_Field_copyFrom_52 (fun D15 => ?_)
  refine z_aload_n (pc := 55) d_Field_copyFrom_55 rfl 0 rfl ?_
  refine z_aload_n (pc := 56) d_Field_copyFrom_56 rfl 1 rfl ?_
  refine z_getI (pc := 57) fl_Field_69 d_Field_copyFrom_57 (fun v16 => ?_)
  refine z_putI (pc := 60) fl_Field_69 d_Field_copyFrom_60 (fun D17 => ?_)
  refine z_aload_n (pc := 63) d_Field_copyFrom_63 rfl 0 rfl ?_
  refine z_aload_n (pc := 64) d_Field_copyFrom_64 rfl 1 rfl ?_
  refine z_getI (pc := 65) fl_Field_72 d_Field_copyFrom_65 (fun v18 => ?_)
  refine z_putI (pc := 68) fl_Field_72 d_Field_copyFrom_68 (fun D19 => ?_)
  refine z_aload_n (pc := 71) d_Field_copyFrom_71 rfl 0 rfl ?_
  refine z_aload_n (pc := 72) d_Field_copyFrom_72 rfl 1 rfl ?_
  refine z_getI (pc := 73) fl_Field_46 d_Field_copyFrom_73 (fun v20 => ?_)
  refine z_putI (pc := 76) fl_Field_46 d_Field_copyFrom_76 (fun D21 => ?_)
  refine z_aload_n (pc := 79) d_Field_copyFrom_79 rfl 0 rfl ?_
  refine z_aload_n (pc := 80) d_Field_copyFrom_80 rfl 1 rfl ?_
  refine z_getI (pc := 81) fl_Field_50 d_Field_copyFrom_81 (fun v22 => ?_)
  refine z_putI (pc := 84) fl_Field_50 d_Field_copyFrom_84 (fun D23 => ?_)
  exact z_vret (pc := 87) d_Field_copyFrom_87 rfl
theorem d_Field_hasPair_0 : decode Y_Field_hasPair.2.1 0 = .ok (.aload_n 0, 1) := by decide +kernel
theorem d_Field_hasPair_1 : decode Y_Field_hasPair.2.1 1 = .ok (.getfield 21, 3) := by decide +kernel
theorem d_Field_hasPair_4 : decode Y_Field_hasPair.2.1 4 = .ok (.iload_n 1, 1) := by decide +kernel
theorem d_Field_hasPair_5 : decode Y_Field_hasPair.2.1 5 = .ok (.invokevirtual 75, 3) := by decide +kernel
theorem d_Field_hasPair_8 : decode Y_Field_hasPair.2.1 8 = .ok (.ifCond .eq (18), 3) := by decide +kernel
theorem d_Field_hasPair_11 : decode Y_Field_hasPair.2.1 11 = .ok (.aload_n 0, 1) := by decide +kernel
theorem d_Field_hasPair_12 : decode Y_Field_hasPair.2.1 12 = .ok (.getfield 12, 3) := by decide +kernel
theorem d_Field_hasPair_15 : decode Y_Field_hasPair.2.1 15 = .ok (.iload_n 2, 1) := by decide +kernel
theorem d_Field_hasPair_16 : decode Y_Field_hasPair.2.1 16 = .ok (.invokevirtual 79, 3) := by decide +kernel
theorem d_Field_hasPair_19 : decode Y_Field_hasPair.2.1 19 = .ok (.ifCond .eq (7), 3) := by decide +kernel
theorem d_Field_hasPair_22 : decode Y_Field_hasPair.2.1 22 = .ok (.iconst (1), 1) := by decide +kernel
theorem d_Field_hasPair_23 : decode Y_Field_hasPair.2.1 23 = .ok (.goto (4), 3) := by decide +kernel
theorem d_Field_hasPair_26 : decode Y_Field_hasPair.2.1 26 = .ok (.iconst (0), 1) := by decide +kernel
theorem d_Field_hasPair_27 : decode Y_Field_hasPair.2.1 27 = .ok (.ireturn, 1) := by decide +kernel
def f_Field_hasPair (w : zW) (D : zD) (a : Nat) (x1 : Int32) (x2 : Int32) : Option (Int32 × zD) := zjp (fun (s0 : Int32) (D1 : zD) => zchk (s0 = 0 ∨ s0 = 1) (some (s0, D1))) (fun j27 => zjp (fun (D2 : zD) => j27 (0 : Int32) D2) (fun j26 => zref w 3 1 a (fun p3 => zobj w 4 p3 (zci (f_Hearers_has w D p3 x1) (fun v4 D5 => (if v4 = 0 then j26 D5 else zref w 3 0 a (fun p6 => zobj w 6 p6 (zci (f_Sirens_has w D5 p6 x2) (fun v7 D8 => (if v7 = 0 then j26 D8 else j27 (1 : Int32) D8))))))))))
set_option maxHeartbeats 4000000 in
set_option maxRecDepth 100000 in
theorem c_Field_hasPair (z : zT) (D : zD) (a : Nat) (x1 : Int32) (x2 : Int32) : zM Y_Field_hasPair 2 0 0 (zqI z) (f_Field_hasPair z.2 D a x1 x2) [.ref a, .int x1, .int x2] z D := by
  refine zM_of (plainFor_of_name (by decide +kernel)) rfl (Nat.le_of_ble_eq_true rfl) (fun _ _ _ _ h => nomatch h.1) (fun K => ?_)
  unfold f_Field_hasPair
  refine z_jp (fun j27 : Int32 → zD → Option (Int32 × zD) => ∀ (s0 : Int32) (D1 : zD), zGO K Y_Field_hasPair 2 0 0 (zqI z) (j27 s0 D1) 0 0 z D1 27 [] [.int s0]) (fun s0 D1 => ?_) (fun j27 h27 => ?_)
  · exact z_zret (pc := 27) d_Field_hasPair_27 rfl
  · refine z_jp (fun j26 : zD → Option (Int32 × zD) => ∀ (D2 : zD), zGO K Y_Field_hasPair 2 0 0 (zqI z) (j26  D2) 0 0 z D2 26 [] []) (fun  D2 => ?_) (fun j26 h26 => ?_)
    · refine z_iconst (pc := 26) d_Field_hasPair_26 ki_0 ?_
      exact z_sub [] rfl (h27 (0 : Int32) D2)
    · refine z_aload_n (pc := 0) d_Field_hasPair_0 rfl 0 rfl ?_
      refine z_getR (pc := 1) fl_Field_21 d_Field_hasPair_1 (fun p3 => ?_)
      refine z_iload_n (pc := 4) d_Field_hasPair_4 rfl 1 rfl ?_
      refine z_callVi (pc := 5) [.int x1] lkV_Field_75 rfl (c_Hearers_has z D p3 x1) (by decide) rfl rfl (Nat.le_of_ble_eq_true rfl) d_Field_hasPair_5 (fun v4 D5 => ?_)
      refine z_if_eq (pc := 8) (tgt := 26) d_Field_hasPair_8 (by decide) ?_ ?_
      · exact z_sub [] rfl (h26 D5)
      · refine z_aload_n (pc := 11) d_Field_hasPair_11 rfl 0 rfl ?_
        refine z_getR (pc := 12) fl_Field_12 d_Field_hasPair_12 (fun p6 => ?_)
        refine z_iload_n (pc := 15) d_Field_hasPair_15 rfl 2 rfl ?_
        refine z_callVi (pc := 16) [.int x2] lkV_Field_79 rfl (c_Sirens_has z D5 p6 x2) (by decide) rfl rfl (Nat.le_of_ble_eq_true rfl) d_Field_hasPair_16 (fun v7 D8 => ?_)
        refine z_if_eq (pc := 19) (tgt := 26) d_Field_hasPair_19 (by decide) ?_ ?_
        · exact z_sub [] rfl (h26 D8)
        · refine z_iconst (pc := 22) d_Field_hasPair_22 ki_1 ?_
          refine z_goto (pc := 23) (tgt := 27) d_Field_hasPair_23 (by decide) ?_
          exact z_sub [] rfl (h27 (1 : Int32) D8)
theorem d_Field_isSetting_0 : decode Y_Field_isSetting.2.1 0 = .ok (.iload_n 0, 1) := by decide +kernel
theorem d_Field_isSetting_1 : decode Y_Field_isSetting.2.1 1 = .ok (.ifCond .ne (13), 3) := by decide +kernel
theorem d_Field_isSetting_4 : decode Y_Field_isSetting.2.1 4 = .ok (.iload_n 1, 1) := by decide +kernel
theorem d_Field_isSetting_5 : decode Y_Field_isSetting.2.1 5 = .ok (.iconst (1), 1) := by decide +kernel
theorem d_Field_isSetting_6 : decode Y_Field_isSetting.2.1 6 = .ok (.bipush (9), 2) := by decide +kernel
theorem d_Field_isSetting_8 : decode Y_Field_isSetting.2.1 8 = .ok (.invokestatic 80, 3) := by decide +kernel
theorem d_Field_isSetting_11 : decode Y_Field_isSetting.2.1 11 = .ok (.ifCond .ne (18), 3) := by decide +kernel
theorem d_Field_isSetting_14 : decode Y_Field_isSetting.2.1 14 = .ok (.iload_n 0, 1) := by decide +kernel
theorem d_Field_isSetting_15 : decode Y_Field_isSetting.2.1 15 = .ok (.iconst (1), 1) := by decide +kernel
theorem d_Field_isSetting_16 : decode Y_Field_isSetting.2.1 16 = .ok (.if_icmp .ne (17), 3) := by decide +kernel
theorem d_Field_isSetting_19 : decode Y_Field_isSetting.2.1 19 = .ok (.iload_n 1, 1) := by decide +kernel
theorem d_Field_isSetting_20 : decode Y_Field_isSetting.2.1 20 = .ok (.iconst (1), 1) := by decide +kernel
theorem d_Field_isSetting_21 : decode Y_Field_isSetting.2.1 21 = .ok (.bipush (99), 2) := by decide +kernel
theorem d_Field_isSetting_23 : decode Y_Field_isSetting.2.1 23 = .ok (.invokestatic 80, 3) := by decide +kernel
theorem d_Field_isSetting_26 : decode Y_Field_isSetting.2.1 26 = .ok (.ifCond .eq (7), 3) := by decide +kernel
theorem d_Field_isSetting_29 : decode Y_Field_isSetting.2.1 29 = .ok (.iconst (1), 1) := by decide +kernel
theorem d_Field_isSetting_30 : decode Y_Field_isSetting.2.1 30 = .ok (.goto (4), 3) := by decide +kernel
theorem d_Field_isSetting_33 : decode Y_Field_isSetting.2.1 33 = .ok (.iconst (0), 1) := by decide +kernel
theorem d_Field_isSetting_34 : decode Y_Field_isSetting.2.1 34 = .ok (.ireturn, 1) := by decide +kernel
def f_Field_isSetting (w : zW) (D : zD) (x0 : Int32) (x1 : Int32) : Option (Int32 × zD) := zjp (fun (s0 : Int32) (D1 : zD) => zchk (s0 = 0 ∨ s0 = 1) (some (s0, D1))) (fun j34 => zjp (fun (D2 : zD) => j34 (1 : Int32) D2) (fun j29 => zjp (fun (D3 : zD) => zjp (fun (D4 : zD) => j34 (0 : Int32) D4) (fun j33 => (if x0 = (1 : Int32) then zci (f_SF_isWithin w D3 x1 (1 : Int32) (99 : Int32)) (fun v5 D6 => (if v5 = 0 then j33 D6 else j29 D6)) else j33 D3))) (fun j14 => (if x0 = 0 then zci (f_SF_isWithin w D x1 (1 : Int32) (9 : Int32)) (fun v7 D8 => (if v7 = 0 then j14 D8 else j29 D8)) else j14 D))))
set_option maxHeartbeats 4000000 in
set_option maxRecDepth 100000 in
theorem c_Field_isSetting (z : zT) (D : zD) (x0 : Int32) (x1 : Int32) : zM Y_Field_isSetting 2 0 0 (zqI z) (f_Field_isSetting z.2 D x0 x1) [.int x0, .int x1] z D := by
  refine zM_of (plainFor_of_name (by decide +kernel)) rfl (Nat.le_of_ble_eq_true rfl) (fun _ _ _ _ h => nomatch h.1) (fun K => ?_)
  unfold f_Field_isSetting
  refine z_jp (fun j34 : Int32 → zD → Option (Int32 × zD) => ∀ (s0 : Int32) (D1 : zD), zGO K Y_Field_isSetting 2 0 0 (zqI z) (j34 s0 D1) 0 0 z D1 34 [] [.int s0]) (fun s0 D1 => ?_) (fun j34 h34 => ?_)
  · exact z_zret (pc := 34) d_Field_isSetting_34 rfl
  · refine z_jp (fun j29 : zD → Option (Int32 × zD) => ∀ (D2 : zD), zGO K Y_Field_isSetting 2 0 0 (zqI z) (j29  D2) 0 0 z D2 29 [] []) (fun  D2 => ?_) (fun j29 h29 => ?_)
    · refine z_iconst (pc := 29) d_Field_isSetting_29 ki_1 ?_
      refine z_goto (pc := 30) (tgt := 34) d_Field_isSetting_30 (by decide) ?_
      exact z_sub [] rfl (h34 (1 : Int32) D2)
    · refine z_jp (fun j14 : zD → Option (Int32 × zD) => ∀ (D3 : zD), zGO K Y_Field_isSetting 2 0 0 (zqI z) (j14  D3) 0 0 z D3 14 [(0, .int x0), (1, .int x1)] []) (fun  D3 => ?_) (fun j14 h14 => ?_)
      · refine z_jp (fun j33 : zD → Option (Int32 × zD) => ∀ (D4 : zD), zGO K Y_Field_isSetting 2 0 0 (zqI z) (j33  D4) 0 0 z D4 33 [] []) (fun  D4 => ?_) (fun j33 h33 => ?_)
        · refine z_iconst (pc := 33) d_Field_isSetting_33 ki_0 ?_
          exact z_sub [] rfl (h34 (0 : Int32) D4)
        · refine z_iload_n (pc := 14) d_Field_isSetting_14 rfl 0 rfl ?_
          refine z_iconst (pc := 15) d_Field_isSetting_15 ki_1 ?_
          refine z_icmp_ne (pc := 16) (tgt := 33) d_Field_isSetting_16 (by decide) ?_ ?_
          · refine z_iload_n (pc := 19) d_Field_isSetting_19 rfl 1 rfl ?_
            refine z_iconst (pc := 20) d_Field_isSetting_20 ki_1 ?_
            refine z_bipush (pc := 21) d_Field_isSetting_21 kb_99 ?_
            refine z_callSNi (pc := 23) [.int x1, .int (1 : Int32), .int (99 : Int32)] lkS_Field_80 (c_SF_isWithin z D3 x1 (1 : Int32) (99 : Int32)) (by decide) rfl rfl (Nat.le_of_ble_eq_true rfl) d_Field_isSetting_23 (fun v5 D6 => ?_)
            refine z_if_eq (pc := 26) (tgt := 33) d_Field_isSetting_26 (by decide) ?_ ?_
            · exact z_sub [] rfl (h33 D6)
            · exact z_sub [] rfl (h29 D6)
          · exact z_sub [] rfl (h33 D3)
      · refine z_iload_n (pc := 0) d_Field_isSetting_0 rfl 0 rfl ?_
        refine z_if_ne (pc := 1) (tgt := 14) d_Field_isSetting_1 (by decide) ?_ ?_
        · refine z_iload_n (pc := 4) d_Field_isSetting_4 rfl 1 rfl ?_
          refine z_iconst (pc := 5) d_Field_isSetting_5 ki_1 ?_
          refine z_bipush (pc := 6) d_Field_isSetting_6 kb_9 ?_
          refine z_callSNi (pc := 8) [.int x1, .int (1 : Int32), .int (9 : Int32)] lkS_Field_80 (c_SF_isWithin z D x1 (1 : Int32) (9 : Int32)) (by decide) rfl rfl (Nat.le_of_ble_eq_true rfl) d_Field_isSetting_8 (fun v7 D8 => ?_)
          refine z_if_ne (pc := 11) (tgt := 29) d_Field_isSetting_11 (by decide) ?_ ?_
          · exact z_sub [0, 1] rfl (h14 D8)
          · exact z_sub [] rfl (h29 D8)
        · exact z_sub [0, 1] rfl (h14 D)
theorem d_Field_init_0 : decode Y_Field_init.2.1 0 = .ok (.aload_n 0, 1) := by decide +kernel
theorem d_Field_init_1 : decode Y_Field_init.2.1 1 = .ok (.invokespecial 3, 3) := by decide +kernel
theorem d_Field_init_4 : decode Y_Field_init.2.1 4 = .ok (.aload_n 0, 1) := by decide +kernel
theorem d_Field_init_5 : decode Y_Field_init.2.1 5 = .ok (.new 9, 3) := by decide +kernel
theorem d_Field_init_8 : decode Y_Field_init.2.1 8 = .ok (.dup, 1) := by decide +kernel
theorem d_Field_init_9 : decode Y_Field_init.2.1 9 = .ok (.invokespecial 11, 3) := by decide +kernel
theorem d_Field_init_12 : decode Y_Field_init.2.1 12 = .ok (.putfield 12, 3) := by decide +kernel
theorem d_Field_init_15 : decode Y_Field_init.2.1 15 = .ok (.aload_n 0, 1) := by decide +kernel
theorem d_Field_init_16 : decode Y_Field_init.2.1 16 = .ok (.new 18, 3) := by decide +kernel
theorem d_Field_init_19 : decode Y_Field_init.2.1 19 = .ok (.dup, 1) := by decide +kernel
theorem d_Field_init_20 : decode Y_Field_init.2.1 20 = .ok (.invokespecial 20, 3) := by decide +kernel
theorem d_Field_init_23 : decode Y_Field_init.2.1 23 = .ok (.putfield 21, 3) := by decide +kernel
theorem d_Field_init_26 : decode Y_Field_init.2.1 26 = .ok (.aload_n 0, 1) := by decide +kernel
theorem d_Field_init_27 : decode Y_Field_init.2.1 27 = .ok (.new 25, 3) := by decide +kernel
theorem d_Field_init_30 : decode Y_Field_init.2.1 30 = .ok (.dup, 1) := by decide +kernel
theorem d_Field_init_31 : decode Y_Field_init.2.1 31 = .ok (.invokespecial 27, 3) := by decide +kernel
theorem d_Field_init_34 : decode Y_Field_init.2.1 34 = .ok (.putfield 28, 3) := by decide +kernel
theorem d_Field_init_37 : decode Y_Field_init.2.1 37 = .ok (.aload_n 0, 1) := by decide +kernel
theorem d_Field_init_38 : decode Y_Field_init.2.1 38 = .ok (.new 32, 3) := by decide +kernel
theorem d_Field_init_41 : decode Y_Field_init.2.1 41 = .ok (.dup, 1) := by decide +kernel
theorem d_Field_init_42 : decode Y_Field_init.2.1 42 = .ok (.invokespecial 34, 3) := by decide +kernel
theorem d_Field_init_45 : decode Y_Field_init.2.1 45 = .ok (.putfield 35, 3) := by decide +kernel
theorem d_Field_init_48 : decode Y_Field_init.2.1 48 = .ok (.aload_n 0, 1) := by decide +kernel
theorem d_Field_init_49 : decode Y_Field_init.2.1 49 = .ok (.new 39, 3) := by decide +kernel
theorem d_Field_init_52 : decode Y_Field_init.2.1 52 = .ok (.dup, 1) := by decide +kernel
theorem d_Field_init_53 : decode Y_Field_init.2.1 53 = .ok (.invokespecial 41, 3) := by decide +kernel
theorem d_Field_init_56 : decode Y_Field_init.2.1 56 = .ok (.putfield 42, 3) := by decide +kernel
theorem d_Field_init_59 : decode Y_Field_init.2.1 59 = .ok (.aload_n 0, 1) := by decide +kernel
theorem d_Field_init_60 : decode Y_Field_init.2.1 60 = .ok (.iconst (3), 1) := by decide +kernel
theorem d_Field_init_61 : decode Y_Field_init.2.1 61 = .ok (.putfield 46, 3) := by decide +kernel
theorem d_Field_init_64 : decode Y_Field_init.2.1 64 = .ok (.aload_n 0, 1) := by decide +kernel
theorem d_Field_init_65 : decode Y_Field_init.2.1 65 = .ok (.bipush (40), 2) := by decide +kernel
theorem d_Field_init_67 : decode Y_Field_init.2.1 67 = .ok (.putfield 50, 3) := by decide +kernel
theorem d_Field_init_70 : decode Y_Field_init.2.1 70 = .ok (.return_, 1) := by decide +kernel
def f_Field_init (z : zT) (D : zD) (a : Nat) : Option (zT × zD) := znew z D (.inr (.inr (6, [some none, some none, some none, some none, some none, some none, some none, none]))) (fun q1 z2 D3 => zcc (f_Sirens_init z2 D3 q1 ) (fun z4 D5 => zputR z4 3 0 a q1 (fun z6 => znew z6 D5 (.inr (.inr (4, [some none, some none, some none, some none, some none, some none, none, none]))) (fun q7 z8 D9 => zcc (f_Hearers_init z8 D9 q7 ) (fun z10 D11 => zputR z10 3 1 a q7 (fun z12 => znew z12 D11 (.inr (.inr (7, [some none, some none, none]))) (fun q13 z14 D15 => zcc (f_Walls_init z14 D15 q13 ) (fun z16 D17 => zputR z16 3 2 a q13 (fun z18 => znew z18 D17 (.inr (.inr (5, [some none, some none, some none, some none, some none, some none, none, none]))) (fun q19 z20 D21 => zcc (f_Pulses_init z20 D21 q19 ) (fun z22 D23 => zputR z22 3 3 a q19 (fun z24 => znew z24 D23 (.inr (.inr (1, [some none, some none, some none, some none, some none, some none, none, none, none]))) (fun q25 z26 D27 => zcc (f_Ears_init z26 D27 q25 ) (fun z28 D29 => zputR z28 3 4 a q25 (fun z30 => zput z30.2 D29 3 7 a (3 : Int32) (fun D31 => zput z30.2 D31 3 8 a (40 : Int32) (fun D32 => some (z30, D32))))))))))))))))))
set_option maxHeartbeats 4000000 in
set_option maxRecDepth 100000 in
theorem c_Field_init (z : zT) (D : zD) (a : Nat) : zM Y_Field_init 3 32 550 zqC (f_Field_init z D a) [.ref a] z D := by
  refine zM_of (plainFor_of_name (by decide +kernel)) rfl (Nat.le_of_ble_eq_true rfl) (fun _ _ _ _ h => nomatch h.1) (fun K => ?_)
  unfold f_Field_init
  refine z_aload_n (pc := 0) d_Field_init_0 rfl 0 rfl ?_
  refine z_objInit (pc := 1) w_ml_Field_3 w_oi1 w_oi2 (by decide) (Nat.le_of_ble_eq_true rfl) d_Field_init_1 ?_
  refine z_aload_n (pc := 4) d_Field_init_4 rfl 0 rfl ?_
  refine z_new (pc := 5) (kc2 := 31) (ks2 := 542) zc_Sirens w_cl_Field_9 w_inst_Sirens w_ini_Sirens (z_defs (by decide +kernel)) (by decide) (by decide) d_Field_init_5 (fun q1 z2 D3 => ?_)
  refine z_dup (pc := 8) d_Field_init_8 rfl ?_
  refine z_callINc (pc := 9) (kc2 := 24) (ks2 := 514) [] lkI_Field_11 (c_Sirens_init z2 D3 q1 ) (by decide) (by decide) (by decide) rfl rfl (Nat.le_of_ble_eq_true rfl) d_Field_init_9 (fun z4 D5 => ?_)
  refine z_putR (pc := 12) fl_Field_12 rfl (fun _ _ _ h => by cases h; rfl) (Or.inl ⟨_, rfl⟩) d_Field_init_12 (fun z6 => ?_)
  refine z_aload_n (pc := 15) d_Field_init_15 rfl 0 rfl ?_
  refine z_new (pc := 16) (kc2 := 23) (ks2 := 506) zc_Hearers w_cl_Field_18 w_inst_Hearers w_ini_Hearers (z_defs (by decide +kernel)) (by decide) (by decide) d_Field_init_16 (fun q7 z8 D9 => ?_)
  refine z_dup (pc := 19) d_Field_init_19 rfl ?_
  refine z_callINc (pc := 20) (kc2 := 17) (ks2 := 482) [] lkI_Field_20 (c_Hearers_init z8 D9 q7 ) (by decide) (by decide) (by decide) rfl rfl (Nat.le_of_ble_eq_true rfl) d_Field_init_20 (fun z10 D11 => ?_)
  refine z_putR (pc := 23) fl_Field_21 rfl (fun _ _ _ h => by cases h; rfl) (Or.inl ⟨_, rfl⟩) d_Field_init_23 (fun z12 => ?_)
  refine z_aload_n (pc := 26) d_Field_init_26 rfl 0 rfl ?_
  refine z_new (pc := 27) (kc2 := 16) (ks2 := 479) zc_Walls w_cl_Field_25 w_inst_Walls w_ini_Walls (z_defs (by decide +kernel)) (by decide) (by decide) d_Field_init_27 (fun q13 z14 D15 => ?_)
  refine z_dup (pc := 30) d_Field_init_30 rfl ?_
  refine z_callINc (pc := 31) (kc2 := 14) (ks2 := 473) [] lkI_Field_27 (c_Walls_init z14 D15 q13 ) (by decide) (by decide) (by decide) rfl rfl (Nat.le_of_ble_eq_true rfl) d_Field_init_31 (fun z16 D17 => ?_)
  refine z_putR (pc := 34) fl_Field_28 rfl (fun _ _ _ h => by cases h; rfl) (Or.inl ⟨_, rfl⟩) d_Field_init_34 (fun z18 => ?_)
  refine z_aload_n (pc := 37) d_Field_init_37 rfl 0 rfl ?_
  refine z_new (pc := 38) (kc2 := 13) (ks2 := 465) zc_Pulses w_cl_Field_32 w_inst_Pulses w_ini_Pulses (z_defs (by decide +kernel)) (by decide) (by decide) d_Field_init_38 (fun q19 z20 D21 => ?_)
  refine z_dup (pc := 41) d_Field_init_41 rfl ?_
  refine z_callINc (pc := 42) (kc2 := 7) (ks2 := 105) [] lkI_Field_34 (c_Pulses_init z20 D21 q19 ) (by decide) (by decide) (by decide) rfl rfl (Nat.le_of_ble_eq_true rfl) d_Field_init_42 (fun z22 D23 => ?_)
  refine z_putR (pc := 45) fl_Field_35 rfl (fun _ _ _ h => by cases h; rfl) (Or.inl ⟨_, rfl⟩) d_Field_init_45 (fun z24 => ?_)
  refine z_aload_n (pc := 48) d_Field_init_48 rfl 0 rfl ?_
  refine z_new (pc := 49) (kc2 := 6) (ks2 := 96) zc_Ears w_cl_Field_39 w_inst_Ears w_ini_Ears (z_defs (by decide +kernel)) (by decide) (by decide) d_Field_init_49 (fun q25 z26 D27 => ?_)
  refine z_dup (pc := 52) d_Field_init_52 rfl ?_
  refine z_callIc (pc := 53) (kc2 := 0) (ks2 := 0) [] lkI_Field_41 (c_Ears_init z26 D27 q25 ) (by decide) (by decide) (by decide) rfl rfl (Nat.le_of_ble_eq_true rfl) d_Field_init_53 (fun z28 D29 => ?_)
  refine z_putR (pc := 56) fl_Field_42 rfl (fun _ _ _ h => by cases h; rfl) (Or.inl ⟨_, rfl⟩) d_Field_init_56 (fun z30 => ?_)
  refine z_aload_n (pc := 59) d_Field_init_59 rfl 0 rfl ?_
  refine z_iconst (pc := 60) d_Field_init_60 ki_3 ?_
  refine z_putI (pc := 61) fl_Field_46 d_Field_init_61 (fun D31 => ?_)
  refine z_aload_n (pc := 64) d_Field_init_64 rfl 0 rfl ?_
  refine z_bipush (pc := 65) d_Field_init_65 kb_40 ?_
  refine z_putI (pc := 67) fl_Field_50 d_Field_init_67 (fun D32 => ?_)
  exact z_cret (pc := 70) d_Field_init_70 rfl
theorem d_Field_soundOf_0 : decode Y_Field_soundOf.2.1 0 = .ok (.aload_n 0, 1) := by decide +kernel
theorem d_Field_soundOf_1 : decode Y_Field_soundOf.2.1 1 = .ok (.iload_n 1, 1) := by decide +kernel
theorem d_Field_soundOf_2 : decode Y_Field_soundOf.2.1 2 = .ok (.iload_n 2, 1) := by decide +kernel
theorem d_Field_soundOf_3 : decode Y_Field_soundOf.2.1 3 = .ok (.invokevirtual 84, 3) := by decide +kernel
theorem d_Field_soundOf_6 : decode Y_Field_soundOf.2.1 6 = .ok (.ifCond .ne (5), 3) := by decide +kernel
theorem d_Field_soundOf_9 : decode Y_Field_soundOf.2.1 9 = .ok (.iconst (-1), 1) := by decide +kernel
theorem d_Field_soundOf_10 : decode Y_Field_soundOf.2.1 10 = .ok (.ireturn, 1) := by decide +kernel
theorem d_Field_soundOf_11 : decode Y_Field_soundOf.2.1 11 = .ok (.aload_n 0, 1) := by decide +kernel
theorem d_Field_soundOf_12 : decode Y_Field_soundOf.2.1 12 = .ok (.getfield 42, 3) := by decide +kernel
theorem d_Field_soundOf_15 : decode Y_Field_soundOf.2.1 15 = .ok (.getfield 88, 3) := by decide +kernel
theorem d_Field_soundOf_18 : decode Y_Field_soundOf.2.1 18 = .ok (.iload_n 1, 1) := by decide +kernel
theorem d_Field_soundOf_19 : decode Y_Field_soundOf.2.1 19 = .ok (.iload_n 2, 1) := by decide +kernel
theorem d_Field_soundOf_20 : decode Y_Field_soundOf.2.1 20 = .ok (.invokestatic 92, 3) := by decide +kernel
theorem d_Field_soundOf_23 : decode Y_Field_soundOf.2.1 23 = .ok (.iaload, 1) := by decide +kernel
theorem d_Field_soundOf_24 : decode Y_Field_soundOf.2.1 24 = .ok (.istore_n 3, 1) := by decide +kernel
theorem d_Field_soundOf_25 : decode Y_Field_soundOf.2.1 25 = .ok (.iload_n 3, 1) := by decide +kernel
theorem d_Field_soundOf_26 : decode Y_Field_soundOf.2.1 26 = .ok (.iconst (-1), 1) := by decide +kernel
theorem d_Field_soundOf_27 : decode Y_Field_soundOf.2.1 27 = .ok (.if_icmp .ne (5), 3) := by decide +kernel
theorem d_Field_soundOf_30 : decode Y_Field_soundOf.2.1 30 = .ok (.iconst (-1), 1) := by decide +kernel
theorem d_Field_soundOf_31 : decode Y_Field_soundOf.2.1 31 = .ok (.ireturn, 1) := by decide +kernel
theorem d_Field_soundOf_32 : decode Y_Field_soundOf.2.1 32 = .ok (.aload_n 0, 1) := by decide +kernel
theorem d_Field_soundOf_33 : decode Y_Field_soundOf.2.1 33 = .ok (.getfield 12, 3) := by decide +kernel
theorem d_Field_soundOf_36 : decode Y_Field_soundOf.2.1 36 = .ok (.getfield 96, 3) := by decide +kernel
theorem d_Field_soundOf_39 : decode Y_Field_soundOf.2.1 39 = .ok (.iload_n 2, 1) := by decide +kernel
theorem d_Field_soundOf_40 : decode Y_Field_soundOf.2.1 40 = .ok (.iaload, 1) := by decide +kernel
theorem d_Field_soundOf_41 : decode Y_Field_soundOf.2.1 41 = .ok (.istore 4, 2) := by decide +kernel
theorem d_Field_soundOf_43 : decode Y_Field_soundOf.2.1 43 = .ok (.iload_n 3, 1) := by decide +kernel
theorem d_Field_soundOf_44 : decode Y_Field_soundOf.2.1 44 = .ok (.iload 4, 2) := by decide +kernel
theorem d_Field_soundOf_46 : decode Y_Field_soundOf.2.1 46 = .ok (.if_icmp .ge (7), 3) := by decide +kernel
theorem d_Field_soundOf_49 : decode Y_Field_soundOf.2.1 49 = .ok (.iconst (1), 1) := by decide +kernel
theorem d_Field_soundOf_50 : decode Y_Field_soundOf.2.1 50 = .ok (.goto (14), 3) := by decide +kernel
theorem d_Field_soundOf_53 : decode Y_Field_soundOf.2.1 53 = .ok (.iload_n 3, 1) := by decide +kernel
theorem d_Field_soundOf_54 : decode Y_Field_soundOf.2.1 54 = .ok (.iload 4, 2) := by decide +kernel
theorem d_Field_soundOf_56 : decode Y_Field_soundOf.2.1 56 = .ok (.if_icmp .le (7), 3) := by decide +kernel
theorem d_Field_soundOf_59 : decode Y_Field_soundOf.2.1 59 = .ok (.iconst (2), 1) := by decide +kernel
theorem d_Field_soundOf_60 : decode Y_Field_soundOf.2.1 60 = .ok (.goto (4), 3) := by decide +kernel
theorem d_Field_soundOf_63 : decode Y_Field_soundOf.2.1 63 = .ok (.iconst (0), 1) := by decide +kernel
theorem d_Field_soundOf_64 : decode Y_Field_soundOf.2.1 64 = .ok (.ireturn, 1) := by decide +kernel
def f_Field_soundOf (w : zW) (D : zD) (a : Nat) (x1 : Int32) (x2 : Int32) : Option (Int32 × zD) := zobj w 3 a (zci (f_Field_hasPair w D a x1 x2) (fun v1 D2 => (if v1 = 0 then some ((-1 : Int32), D2) else zref w 3 4 a (fun p3 => zref w 1 4 p3 (fun p4 => zci (f_Ears_pairOf w D2 x1 x2) (fun v5 D6 => zald w D6 0 p4 v5 (fun v7 => (if v7 = (-1 : Int32) then some ((-1 : Int32), D6) else zjp (fun (s0 : Int32) (D8 : zD) => some (s0, D8)) (fun j64 => zref w 3 0 a (fun p9 => zref w 6 4 p9 (fun p10 => zald w D6 0 p10 x2 (fun v11 => (if v11 ≤ v7 then (if v7 ≤ v11 then j64 (0 : Int32) D6 else j64 (2 : Int32) D6) else j64 (1 : Int32) D6)))))))))))))
set_option maxHeartbeats 4000000 in
set_option maxRecDepth 100000 in
theorem c_Field_soundOf (z : zT) (D : zD) (a : Nat) (x1 : Int32) (x2 : Int32) : zM Y_Field_soundOf 3 0 0 (zqI z) (f_Field_soundOf z.2 D a x1 x2) [.ref a, .int x1, .int x2] z D := by
  refine zM_of (plainFor_of_name (by decide +kernel)) rfl (Nat.le_of_ble_eq_true rfl) (fun _ _ _ _ h => nomatch h.1) (fun K => ?_)
  unfold f_Field_soundOf
  refine z_aload_n (pc := 0) d_Field_soundOf_0 rfl 0 rfl ?_
  refine z_iload_n (pc := 1) d_Field_soundOf_1 rfl 1 rfl ?_
  refine z_iload_n (pc := 2) d_Field_soundOf_2 rfl 2 rfl ?_
  refine z_callVi (pc := 3) [.int x1, .int x2] lkV_Field_84 rfl (c_Field_hasPair z D a x1 x2) (by decide) rfl rfl (Nat.le_of_ble_eq_true rfl) d_Field_soundOf_3 (fun v1 D2 => ?_)
  refine z_if_ne (pc := 6) (tgt := 11) d_Field_soundOf_6 (by decide) ?_ ?_
  · refine z_iconst (pc := 9) d_Field_soundOf_9 ki_m1 ?_
    exact z_iret (pc := 10) d_Field_soundOf_10 rfl
  · refine z_aload_n (pc := 11) d_Field_soundOf_11 rfl 0 rfl ?_
    refine z_getR (pc := 12) fl_Field_42 d_Field_soundOf_12 (fun p3 => ?_)
    refine z_getR (pc := 15) fl_Field_88 d_Field_soundOf_15 (fun p4 => ?_)
    refine z_iload_n (pc := 18) d_Field_soundOf_18 rfl 1 rfl ?_
    refine z_iload_n (pc := 19) d_Field_soundOf_19 rfl 2 rfl ?_
    refine z_callSi (pc := 20) [.int x1, .int x2] lkS_Field_92 (c_Ears_pairOf z D2 x1 x2) (by decide) rfl rfl (Nat.le_of_ble_eq_true rfl) d_Field_soundOf_20 (fun v5 D6 => ?_)
    refine z_iaload (pc := 23) d_Field_soundOf_23 (fun v7 => ?_)
    refine z_istore_n (pc := 24) d_Field_soundOf_24 rfl (by decide) (lv' := [(3, .int v7), (0, .ref a), (1, .int x1), (2, .int x2)]) rfl ?_
    refine z_iload_n (pc := 25) d_Field_soundOf_25 rfl 0 rfl ?_
    refine z_iconst (pc := 26) d_Field_soundOf_26 ki_m1 ?_
    refine z_icmp_ne (pc := 27) (tgt := 32) d_Field_soundOf_27 (by decide) ?_ ?_
    · refine z_iconst (pc := 30) d_Field_soundOf_30 ki_m1 ?_
      exact z_iret (pc := 31) d_Field_soundOf_31 rfl
    · refine z_jp (fun j64 : Int32 → zD → Option (Int32 × zD) => ∀ (s0 : Int32) (D8 : zD), zGO K Y_Field_soundOf 3 0 0 (zqI z) (j64 s0 D8) 0 0 z D8 64 [] [.int s0]) (fun s0 D8 => ?_) (fun j64 h64 => ?_)
      · exact z_iret (pc := 64) d_Field_soundOf_64 rfl
      · refine z_aload_n (pc := 32) d_Field_soundOf_32 rfl 1 rfl ?_
        refine z_getR (pc := 33) fl_Field_12 d_Field_soundOf_33 (fun p9 => ?_)
        refine z_getR (pc := 36) fl_Field_96 d_Field_soundOf_36 (fun p10 => ?_)
        refine z_iload_n (pc := 39) d_Field_soundOf_39 rfl 3 rfl ?_
        refine z_iaload (pc := 40) d_Field_soundOf_40 (fun v11 => ?_)
        refine z_istore (pc := 41) d_Field_soundOf_41 (by decide) (lv' := [(4, .int v11), (3, .int v7), (0, .ref a), (1, .int x1), (2, .int x2)]) rfl ?_
        refine z_iload_n (pc := 43) d_Field_soundOf_43 rfl 1 rfl ?_
        refine z_iload (pc := 44) d_Field_soundOf_44 0 rfl ?_
        refine z_icmp_ge (pc := 46) (tgt := 53) d_Field_soundOf_46 (by decide) ?_ ?_
        · refine z_iload_n (pc := 53) d_Field_soundOf_53 rfl 1 rfl ?_
          refine z_iload (pc := 54) d_Field_soundOf_54 0 rfl ?_
          refine z_icmp_le (pc := 56) (tgt := 63) d_Field_soundOf_56 (by decide) ?_ ?_
          · refine z_iconst (pc := 63) d_Field_soundOf_63 ki_0 ?_
            exact z_sub [] rfl (h64 (0 : Int32) D6)
          · refine z_iconst (pc := 59) d_Field_soundOf_59 ki_2 ?_
            refine z_goto (pc := 60) (tgt := 64) d_Field_soundOf_60 (by decide) ?_
            exact z_sub [] rfl (h64 (2 : Int32) D6)
        · refine z_iconst (pc := 49) d_Field_soundOf_49 ki_1 ?_
          refine z_goto (pc := 50) (tgt := 64) d_Field_soundOf_50 (by decide) ?_
          exact z_sub [] rfl (h64 (1 : Int32) D6)
theorem d_Field_give_0 : decode Y_Field_give.2.1 0 = .ok (.aload_n 0, 1) := by decide +kernel
theorem d_Field_give_1 : decode Y_Field_give.2.1 1 = .ok (.getfield 35, 3) := by decide +kernel
theorem d_Field_give_4 : decode Y_Field_give.2.1 4 = .ok (.iload_n 1, 1) := by decide +kernel
theorem d_Field_give_5 : decode Y_Field_give.2.1 5 = .ok (.iload_n 2, 1) := by decide +kernel
theorem d_Field_give_6 : decode Y_Field_give.2.1 6 = .ok (.iload_n 3, 1) := by decide +kernel
theorem d_Field_give_7 : decode Y_Field_give.2.1 7 = .ok (.aload_n 0, 1) := by decide +kernel
theorem d_Field_give_8 : decode Y_Field_give.2.1 8 = .ok (.getfield 69, 3) := by decide +kernel
theorem d_Field_give_11 : decode Y_Field_give.2.1 11 = .ok (.iload 4, 2) := by decide +kernel
theorem d_Field_give_13 : decode Y_Field_give.2.1 13 = .ok (.invokevirtual 146, 3) := by decide +kernel
theorem d_Field_give_16 : decode Y_Field_give.2.1 16 = .ok (.aload_n 0, 1) := by decide +kernel
theorem d_Field_give_17 : decode Y_Field_give.2.1 17 = .ok (.dup, 1) := by decide +kernel
theorem d_Field_give_18 : decode Y_Field_give.2.1 18 = .ok (.getfield 72, 3) := by decide +kernel
theorem d_Field_give_21 : decode Y_Field_give.2.1 21 = .ok (.iconst (1), 1) := by decide +kernel
theorem d_Field_give_22 : decode Y_Field_give.2.1 22 = .ok (.iadd, 1) := by decide +kernel
theorem d_Field_give_23 : decode Y_Field_give.2.1 23 = .ok (.putfield 72, 3) := by decide +kernel
theorem d_Field_give_26 : decode Y_Field_give.2.1 26 = .ok (.return_, 1) := by decide +kernel
def f_Field_give (w : zW) (D : zD) (a : Nat) (x1 : Int32) (x2 : Int32) (x3 : Int32) (x4 : Int32) : Option (zD) := zref w 3 3 a (fun p1 => zfld w D 3 5 a (fun v2 => zobj w 5 p1 (zcv (f_Pulses_add w D p1 x1 x2 x3 v2 x4) (fun D3 => zfld w D3 3 6 a (fun v4 => zput w D3 3 6 a (v4 + (1 : Int32)) (fun D5 => some D5))))))
set_option maxHeartbeats 4000000 in
set_option maxRecDepth 100000 in
theorem c_Field_give (z : zT) (D : zD) (a : Nat) (x1 : Int32) (x2 : Int32) (x3 : Int32) (x4 : Int32) : zM Y_Field_give 3 0 0 (zqV z) (f_Field_give z.2 D a x1 x2 x3 x4) [.ref a, .int x1, .int x2, .int x3, .int x4] z D := by
  refine zM_of (plainFor_of_name (by decide +kernel)) rfl (Nat.le_of_ble_eq_true rfl) (fun _ _ _ _ h => nomatch h.1) (fun K => ?_)
  unfold f_Field_give
  refine z_aload_n (pc := 0) d_Field_give_0 rfl 0 rfl ?_
  refine z_getR (pc := 1) fl_Field_35 d_Field_give_1 (fun p1 => ?_)
  refine z_iload_n (pc := 4) d_Field_give_4 rfl 1 rfl ?_
  refine z_iload_n (pc := 5) d_Field_give_5 rfl 2 rfl ?_
  refine z_iload_n (pc := 6) d_Field_give_6 rfl 3 rfl ?_
  refine z_aload_n (pc := 7) d_Field_give_7 rfl 0 rfl ?_
  refine z_getI (pc := 8) fl_Field_69 d_Field_give_8 (fun v2 => ?_)
  refine z_iload (pc := 11) d_Field_give_11 4 rfl ?_
  refine z_callVv (pc := 13) [.int x1, .int x2, .int x3, .int v2, .int x4] lkV_Field_146 rfl (c_Pulses_add z D p1 x1 x2 x3 v2 x4) (by decide) rfl rfl (Nat.le_of_ble_eq_true rfl) d_Field_give_13 (fun D3 => ?_)
  refine z_aload_n (pc := 16) d_Field_give_16 rfl 0 rfl ?_
  refine z_dup (pc := 17) d_Field_give_17 rfl ?_
  refine z_getI (pc := 18) fl_Field_72 d_Field_give_18 (fun v4 => ?_)
  refine z_iconst (pc := 21) d_Field_give_21 ki_1 ?_
  refine z_iadd (pc := 22) d_Field_give_22 ?_
  refine z_putI (pc := 23) fl_Field_72 d_Field_give_23 (fun D5 => ?_)
  exact z_vret (pc := 26) d_Field_give_26 rfl
theorem d_Field_hearPulse_0 : decode Y_Field_hearPulse.2.1 0 = .ok (.aload_n 0, 1) := by decide +kernel
theorem d_Field_hearPulse_1 : decode Y_Field_hearPulse.2.1 1 = .ok (.getfield 35, 3) := by decide +kernel
theorem d_Field_hearPulse_4 : decode Y_Field_hearPulse.2.1 4 = .ok (.getfield 164, 3) := by decide +kernel
theorem d_Field_hearPulse_7 : decode Y_Field_hearPulse.2.1 7 = .ok (.iload_n 1, 1) := by decide +kernel
theorem d_Field_hearPulse_8 : decode Y_Field_hearPulse.2.1 8 = .ok (.iaload, 1) := by decide +kernel
theorem d_Field_hearPulse_9 : decode Y_Field_hearPulse.2.1 9 = .ok (.istore_n 2, 1) := by decide +kernel
theorem d_Field_hearPulse_10 : decode Y_Field_hearPulse.2.1 10 = .ok (.aload_n 0, 1) := by decide +kernel
theorem d_Field_hearPulse_11 : decode Y_Field_hearPulse.2.1 11 = .ok (.getfield 35, 3) := by decide +kernel
theorem d_Field_hearPulse_14 : decode Y_Field_hearPulse.2.1 14 = .ok (.getfield 167, 3) := by decide +kernel
theorem d_Field_hearPulse_17 : decode Y_Field_hearPulse.2.1 17 = .ok (.iload_n 1, 1) := by decide +kernel
theorem d_Field_hearPulse_18 : decode Y_Field_hearPulse.2.1 18 = .ok (.iaload, 1) := by decide +kernel
theorem d_Field_hearPulse_19 : decode Y_Field_hearPulse.2.1 19 = .ok (.istore_n 3, 1) := by decide +kernel
theorem d_Field_hearPulse_20 : decode Y_Field_hearPulse.2.1 20 = .ok (.aload_n 0, 1) := by decide +kernel
theorem d_Field_hearPulse_21 : decode Y_Field_hearPulse.2.1 21 = .ok (.getfield 35, 3) := by decide +kernel
theorem d_Field_hearPulse_24 : decode Y_Field_hearPulse.2.1 24 = .ok (.getfield 170, 3) := by decide +kernel
theorem d_Field_hearPulse_27 : decode Y_Field_hearPulse.2.1 27 = .ok (.iload_n 1, 1) := by decide +kernel
theorem d_Field_hearPulse_28 : decode Y_Field_hearPulse.2.1 28 = .ok (.iaload, 1) := by decide +kernel
theorem d_Field_hearPulse_29 : decode Y_Field_hearPulse.2.1 29 = .ok (.istore 4, 2) := by decide +kernel
theorem d_Field_hearPulse_31 : decode Y_Field_hearPulse.2.1 31 = .ok (.aload_n 0, 1) := by decide +kernel
theorem d_Field_hearPulse_32 : decode Y_Field_hearPulse.2.1 32 = .ok (.getfield 35, 3) := by decide +kernel
theorem d_Field_hearPulse_35 : decode Y_Field_hearPulse.2.1 35 = .ok (.getfield 173, 3) := by decide +kernel
theorem d_Field_hearPulse_38 : decode Y_Field_hearPulse.2.1 38 = .ok (.iload_n 1, 1) := by decide +kernel
theorem d_Field_hearPulse_39 : decode Y_Field_hearPulse.2.1 39 = .ok (.iaload, 1) := by decide +kernel
theorem d_Field_hearPulse_40 : decode Y_Field_hearPulse.2.1 40 = .ok (.istore 5, 2) := by decide +kernel
theorem d_Field_hearPulse_42 : decode Y_Field_hearPulse.2.1 42 = .ok (.aload_n 0, 1) := by decide +kernel
theorem d_Field_hearPulse_43 : decode Y_Field_hearPulse.2.1 43 = .ok (.getfield 69, 3) := by decide +kernel
theorem d_Field_hearPulse_46 : decode Y_Field_hearPulse.2.1 46 = .ok (.aload_n 0, 1) := by decide +kernel
theorem d_Field_hearPulse_47 : decode Y_Field_hearPulse.2.1 47 = .ok (.getfield 35, 3) := by decide +kernel
theorem d_Field_hearPulse_50 : decode Y_Field_hearPulse.2.1 50 = .ok (.getfield 176, 3) := by decide +kernel
theorem d_Field_hearPulse_53 : decode Y_Field_hearPulse.2.1 53 = .ok (.iload_n 1, 1) := by decide +kernel
theorem d_Field_hearPulse_54 : decode Y_Field_hearPulse.2.1 54 = .ok (.iaload, 1) := by decide +kernel
theorem d_Field_hearPulse_55 : decode Y_Field_hearPulse.2.1 55 = .ok (.isub, 1) := by decide +kernel
theorem d_Field_hearPulse_56 : decode Y_Field_hearPulse.2.1 56 = .ok (.istore 6, 2) := by decide +kernel
theorem d_Field_hearPulse_58 : decode Y_Field_hearPulse.2.1 58 = .ok (.iconst (0), 1) := by decide +kernel
theorem d_Field_hearPulse_59 : decode Y_Field_hearPulse.2.1 59 = .ok (.istore 7, 2) := by decide +kernel
theorem d_Field_hearPulse_61 : decode Y_Field_hearPulse.2.1 61 = .ok (.iload 7, 2) := by decide +kernel
theorem d_Field_hearPulse_63 : decode Y_Field_hearPulse.2.1 63 = .ok (.aload_n 0, 1) := by decide +kernel
theorem d_Field_hearPulse_64 : decode Y_Field_hearPulse.2.1 64 = .ok (.getfield 21, 3) := by decide +kernel
theorem d_Field_hearPulse_67 : decode Y_Field_hearPulse.2.1 67 = .ok (.getfield 178, 3) := by decide +kernel
theorem d_Field_hearPulse_70 : decode Y_Field_hearPulse.2.1 70 = .ok (.if_icmp .ge (183), 3) := by decide +kernel
theorem d_Field_hearPulse_73 : decode Y_Field_hearPulse.2.1 73 = .ok (.aload_n 0, 1) := by decide +kernel
theorem d_Field_hearPulse_74 : decode Y_Field_hearPulse.2.1 74 = .ok (.getfield 35, 3) := by decide +kernel
theorem d_Field_hearPulse_77 : decode Y_Field_hearPulse.2.1 77 = .ok (.getfield 179, 3) := by decide +kernel
theorem d_Field_hearPulse_80 : decode Y_Field_hearPulse.2.1 80 = .ok (.iload_n 1, 1) := by decide +kernel
theorem d_Field_hearPulse_81 : decode Y_Field_hearPulse.2.1 81 = .ok (.iaload, 1) := by decide +kernel
theorem d_Field_hearPulse_82 : decode Y_Field_hearPulse.2.1 82 = .ok (.iload 7, 2) := by decide +kernel
theorem d_Field_hearPulse_84 : decode Y_Field_hearPulse.2.1 84 = .ok (.ishr, 1) := by decide +kernel
theorem d_Field_hearPulse_85 : decode Y_Field_hearPulse.2.1 85 = .ok (.iconst (1), 1) := by decide +kernel
theorem d_Field_hearPulse_86 : decode Y_Field_hearPulse.2.1 86 = .ok (.iand, 1) := by decide +kernel
theorem d_Field_hearPulse_87 : decode Y_Field_hearPulse.2.1 87 = .ok (.iconst (1), 1) := by decide +kernel
theorem d_Field_hearPulse_88 : decode Y_Field_hearPulse.2.1 88 = .ok (.if_icmp .eq (159), 3) := by decide +kernel
theorem d_Field_hearPulse_91 : decode Y_Field_hearPulse.2.1 91 = .ok (.aload_n 0, 1) := by decide +kernel
theorem d_Field_hearPulse_92 : decode Y_Field_hearPulse.2.1 92 = .ok (.getfield 21, 3) := by decide +kernel
theorem d_Field_hearPulse_95 : decode Y_Field_hearPulse.2.1 95 = .ok (.iload 7, 2) := by decide +kernel
theorem d_Field_hearPulse_97 : decode Y_Field_hearPulse.2.1 97 = .ok (.iload_n 3, 1) := by decide +kernel
theorem d_Field_hearPulse_98 : decode Y_Field_hearPulse.2.1 98 = .ok (.iload 4, 2) := by decide +kernel
theorem d_Field_hearPulse_100 : decode Y_Field_hearPulse.2.1 100 = .ok (.invokevirtual 182, 3) := by decide +kernel
theorem d_Field_hearPulse_103 : decode Y_Field_hearPulse.2.1 103 = .ok (.aload_n 0, 1) := by decide +kernel
theorem d_Field_hearPulse_104 : decode Y_Field_hearPulse.2.1 104 = .ok (.getfield 46, 3) := by decide +kernel
theorem d_Field_hearPulse_107 : decode Y_Field_hearPulse.2.1 107 = .ok (.iload 6, 2) := by decide +kernel
theorem d_Field_hearPulse_109 : decode Y_Field_hearPulse.2.1 109 = .ok (.imul, 1) := by decide +kernel
theorem d_Field_hearPulse_110 : decode Y_Field_hearPulse.2.1 110 = .ok (.if_icmp .le (6), 3) := by decide +kernel
theorem d_Field_hearPulse_113 : decode Y_Field_hearPulse.2.1 113 = .ok (.goto (134), 3) := by decide +kernel
theorem d_Field_hearPulse_116 : decode Y_Field_hearPulse.2.1 116 = .ok (.iload 5, 2) := by decide +kernel
theorem d_Field_hearPulse_118 : decode Y_Field_hearPulse.2.1 118 = .ok (.iconst (-1), 1) := by decide +kernel
theorem d_Field_hearPulse_119 : decode Y_Field_hearPulse.2.1 119 = .ok (.if_icmp .ne (64), 3) := by decide +kernel
theorem d_Field_hearPulse_122 : decode Y_Field_hearPulse.2.1 122 = .ok (.aload_n 0, 1) := by decide +kernel
theorem d_Field_hearPulse_123 : decode Y_Field_hearPulse.2.1 123 = .ok (.getfield 35, 3) := by decide +kernel
theorem d_Field_hearPulse_126 : decode Y_Field_hearPulse.2.1 126 = .ok (.getfield 179, 3) := by decide +kernel
theorem d_Field_hearPulse_129 : decode Y_Field_hearPulse.2.1 129 = .ok (.iload_n 1, 1) := by decide +kernel
theorem d_Field_hearPulse_130 : decode Y_Field_hearPulse.2.1 130 = .ok (.dup2, 1) := by decide +kernel
theorem d_Field_hearPulse_131 : decode Y_Field_hearPulse.2.1 131 = .ok (.iaload, 1) := by decide +kernel
theorem d_Field_hearPulse_132 : decode Y_Field_hearPulse.2.1 132 = .ok (.iconst (1), 1) := by decide +kernel
theorem d_Field_hearPulse_133 : decode Y_Field_hearPulse.2.1 133 = .ok (.iload 7, 2) := by decide +kernel
theorem d_Field_hearPulse_135 : decode Y_Field_hearPulse.2.1 135 = .ok (.ishl, 1) := by decide +kernel
theorem d_Field_hearPulse_136 : decode Y_Field_hearPulse.2.1 136 = .ok (.ior, 1) := by decide +kernel
theorem d_Field_hearPulse_137 : decode Y_Field_hearPulse.2.1 137 = .ok (.iastore, 1) := by decide +kernel
theorem d_Field_hearPulse_138 : decode Y_Field_hearPulse.2.1 138 = .ok (.aload_n 0, 1) := by decide +kernel
theorem d_Field_hearPulse_139 : decode Y_Field_hearPulse.2.1 139 = .ok (.getfield 42, 3) := by decide +kernel
theorem d_Field_hearPulse_142 : decode Y_Field_hearPulse.2.1 142 = .ok (.iload 7, 2) := by decide +kernel
theorem d_Field_hearPulse_144 : decode Y_Field_hearPulse.2.1 144 = .ok (.iload_n 2, 1) := by decide +kernel
theorem d_Field_hearPulse_145 : decode Y_Field_hearPulse.2.1 145 = .ok (.invokestatic 92, 3) := by decide +kernel
theorem d_Field_hearPulse_148 : decode Y_Field_hearPulse.2.1 148 = .ok (.aload_n 0, 1) := by decide +kernel
theorem d_Field_hearPulse_149 : decode Y_Field_hearPulse.2.1 149 = .ok (.getfield 35, 3) := by decide +kernel
theorem d_Field_hearPulse_152 : decode Y_Field_hearPulse.2.1 152 = .ok (.getfield 176, 3) := by decide +kernel
theorem d_Field_hearPulse_155 : decode Y_Field_hearPulse.2.1 155 = .ok (.iload_n 1, 1) := by decide +kernel
theorem d_Field_hearPulse_156 : decode Y_Field_hearPulse.2.1 156 = .ok (.iaload, 1) := by decide +kernel
theorem d_Field_hearPulse_157 : decode Y_Field_hearPulse.2.1 157 = .ok (.aload_n 0, 1) := by decide +kernel
theorem d_Field_hearPulse_158 : decode Y_Field_hearPulse.2.1 158 = .ok (.getfield 69, 3) := by decide +kernel
theorem d_Field_hearPulse_161 : decode Y_Field_hearPulse.2.1 161 = .ok (.invokevirtual 186, 3) := by decide +kernel
theorem d_Field_hearPulse_164 : decode Y_Field_hearPulse.2.1 164 = .ok (.aload_n 0, 1) := by decide +kernel
theorem d_Field_hearPulse_165 : decode Y_Field_hearPulse.2.1 165 = .ok (.getfield 21, 3) := by decide +kernel
theorem d_Field_hearPulse_168 : decode Y_Field_hearPulse.2.1 168 = .ok (.getfield 190, 3) := by decide +kernel
theorem d_Field_hearPulse_171 : decode Y_Field_hearPulse.2.1 171 = .ok (.iload 7, 2) := by decide +kernel
theorem d_Field_hearPulse_173 : decode Y_Field_hearPulse.2.1 173 = .ok (.dup2, 1) := by decide +kernel
theorem d_Field_hearPulse_174 : decode Y_Field_hearPulse.2.1 174 = .ok (.iaload, 1) := by decide +kernel
theorem d_Field_hearPulse_175 : decode Y_Field_hearPulse.2.1 175 = .ok (.iconst (1), 1) := by decide +kernel
theorem d_Field_hearPulse_176 : decode Y_Field_hearPulse.2.1 176 = .ok (.iload_n 2, 1) := by decide +kernel
theorem d_Field_hearPulse_177 : decode Y_Field_hearPulse.2.1 177 = .ok (.ishl, 1) := by decide +kernel
theorem d_Field_hearPulse_178 : decode Y_Field_hearPulse.2.1 178 = .ok (.ior, 1) := by decide +kernel
theorem d_Field_hearPulse_179 : decode Y_Field_hearPulse.2.1 179 = .ok (.iastore, 1) := by decide +kernel
theorem d_Field_hearPulse_180 : decode Y_Field_hearPulse.2.1 180 = .ok (.goto (67), 3) := by decide +kernel
theorem d_Field_hearPulse_183 : decode Y_Field_hearPulse.2.1 183 = .ok (.aload_n 0, 1) := by decide +kernel
theorem d_Field_hearPulse_184 : decode Y_Field_hearPulse.2.1 184 = .ok (.getfield 28, 3) := by decide +kernel
theorem d_Field_hearPulse_187 : decode Y_Field_hearPulse.2.1 187 = .ok (.iload 5, 2) := by decide +kernel
theorem d_Field_hearPulse_189 : decode Y_Field_hearPulse.2.1 189 = .ok (.iload_n 3, 1) := by decide +kernel
theorem d_Field_hearPulse_190 : decode Y_Field_hearPulse.2.1 190 = .ok (.iload 4, 2) := by decide +kernel
theorem d_Field_hearPulse_192 : decode Y_Field_hearPulse.2.1 192 = .ok (.aload_n 0, 1) := by decide +kernel
theorem d_Field_hearPulse_193 : decode Y_Field_hearPulse.2.1 193 = .ok (.getfield 21, 3) := by decide +kernel
theorem d_Field_hearPulse_196 : decode Y_Field_hearPulse.2.1 196 = .ok (.getfield 193, 3) := by decide +kernel
theorem d_Field_hearPulse_199 : decode Y_Field_hearPulse.2.1 199 = .ok (.iload 7, 2) := by decide +kernel
theorem d_Field_hearPulse_201 : decode Y_Field_hearPulse.2.1 201 = .ok (.iaload, 1) := by decide +kernel
theorem d_Field_hearPulse_202 : decode Y_Field_hearPulse.2.1 202 = .ok (.aload_n 0, 1) := by decide +kernel
theorem d_Field_hearPulse_203 : decode Y_Field_hearPulse.2.1 203 = .ok (.getfield 21, 3) := by decide +kernel
theorem d_Field_hearPulse_206 : decode Y_Field_hearPulse.2.1 206 = .ok (.getfield 194, 3) := by decide +kernel
theorem d_Field_hearPulse_209 : decode Y_Field_hearPulse.2.1 209 = .ok (.iload 7, 2) := by decide +kernel
theorem d_Field_hearPulse_211 : decode Y_Field_hearPulse.2.1 211 = .ok (.iaload, 1) := by decide +kernel
theorem d_Field_hearPulse_212 : decode Y_Field_hearPulse.2.1 212 = .ok (.invokevirtual 195, 3) := by decide +kernel
theorem d_Field_hearPulse_215 : decode Y_Field_hearPulse.2.1 215 = .ok (.ifCond .eq (32), 3) := by decide +kernel
theorem d_Field_hearPulse_218 : decode Y_Field_hearPulse.2.1 218 = .ok (.aload_n 0, 1) := by decide +kernel
theorem d_Field_hearPulse_219 : decode Y_Field_hearPulse.2.1 219 = .ok (.getfield 35, 3) := by decide +kernel
theorem d_Field_hearPulse_222 : decode Y_Field_hearPulse.2.1 222 = .ok (.getfield 179, 3) := by decide +kernel
theorem d_Field_hearPulse_225 : decode Y_Field_hearPulse.2.1 225 = .ok (.iload_n 1, 1) := by decide +kernel
theorem d_Field_hearPulse_226 : decode Y_Field_hearPulse.2.1 226 = .ok (.dup2, 1) := by decide +kernel
theorem d_Field_hearPulse_227 : decode Y_Field_hearPulse.2.1 227 = .ok (.iaload, 1) := by decide +kernel
theorem d_Field_hearPulse_228 : decode Y_Field_hearPulse.2.1 228 = .ok (.iconst (1), 1) := by decide +kernel
theorem d_Field_hearPulse_229 : decode Y_Field_hearPulse.2.1 229 = .ok (.iload 7, 2) := by decide +kernel
theorem d_Field_hearPulse_231 : decode Y_Field_hearPulse.2.1 231 = .ok (.ishl, 1) := by decide +kernel
theorem d_Field_hearPulse_232 : decode Y_Field_hearPulse.2.1 232 = .ok (.ior, 1) := by decide +kernel
theorem d_Field_hearPulse_233 : decode Y_Field_hearPulse.2.1 233 = .ok (.iastore, 1) := by decide +kernel
theorem d_Field_hearPulse_234 : decode Y_Field_hearPulse.2.1 234 = .ok (.aload_n 0, 1) := by decide +kernel
theorem d_Field_hearPulse_235 : decode Y_Field_hearPulse.2.1 235 = .ok (.getfield 42, 3) := by decide +kernel
theorem d_Field_hearPulse_238 : decode Y_Field_hearPulse.2.1 238 = .ok (.iload 7, 2) := by decide +kernel
theorem d_Field_hearPulse_240 : decode Y_Field_hearPulse.2.1 240 = .ok (.iload_n 2, 1) := by decide +kernel
theorem d_Field_hearPulse_241 : decode Y_Field_hearPulse.2.1 241 = .ok (.invokestatic 92, 3) := by decide +kernel
theorem d_Field_hearPulse_244 : decode Y_Field_hearPulse.2.1 244 = .ok (.invokevirtual 199, 3) := by decide +kernel
theorem d_Field_hearPulse_247 : decode Y_Field_hearPulse.2.1 247 = .ok (.iinc 7 (1), 3) := by decide +kernel
theorem d_Field_hearPulse_250 : decode Y_Field_hearPulse.2.1 250 = .ok (.goto (-189), 3) := by decide +kernel
theorem d_Field_hearPulse_253 : decode Y_Field_hearPulse.2.1 253 = .ok (.return_, 1) := by decide +kernel
def f_Field_hearPulse (w : zW) (D : zD) (a : Nat) (x1 : Int32) : Option (zD) := zjp (zlp (fun (_ : Int32) (_ : Int32) (_ : Int32) (_ : Int32) (_ : Int32) (_ : Int32) (_ : zD) => none) (fun (j61 : Int32 → Int32 → Int32 → Int32 → Int32 → Int32 → zD → Option (zD)) (x2 : Int32) (x3 : Int32) (x4 : Int32) (x5 : Int32) (x6 : Int32) (x7 : Int32) (D1 : zD) => zref w 3 1 a (fun p2 => zfld w D1 4 6 p2 (fun v3 => (if v3 ≤ x7 then some D1 else zjp (fun (x2 : Int32) (x3 : Int32) (x4 : Int32) (x5 : Int32) (x6 : Int32) (x7 : Int32) (D4 : zD) => zlet (x7 + (1 : Int32)) (fun v5 => j61 x2 x3 x4 x5 x6 v5 D4)) (fun j247 => zref w 3 3 a (fun p6 => zref w 5 5 p6 (fun p7 => zald w D1 0 p7 x1 (fun v8 => (if ((v8 >>> (x7 &&& 31)) &&& (1 : Int32)) = (1 : Int32) then j247 x2 x3 x4 x5 x6 x7 D1 else zref w 3 1 a (fun p9 => zobj w 4 p9 (zci (f_Hearers_wayTo w D1 p9 x7 x3 x4) (fun v10 D11 => zfld w D11 3 7 a (fun v12 => (if v10 ≤ (v12 * x6) then (if x5 = (-1 : Int32) then zref w 3 3 a (fun p30 => zref w 5 5 p30 (fun p31 => zald w D11 0 p31 x1 (fun v32 => zast w D11 0 p31 x1 (v32 ||| ((1 : Int32) <<< (x7 &&& 31))) (fun D33 => zref w 3 4 a (fun p34 => zci (f_Ears_pairOf w D33 x7 x2) (fun v35 D36 => zref w 3 3 a (fun p37 => zref w 5 3 p37 (fun p38 => zald w D36 0 p38 x1 (fun v39 => zfld w D36 3 5 a (fun v40 => zobj w 1 p34 (zcv (f_Ears_hearDirect w D36 p34 v35 v39 v40) (fun D41 => zref w 3 1 a (fun p42 => zref w 4 5 p42 (fun p43 => zald w D41 0 p43 x7 (fun v44 => zast w D41 0 p43 x7 (v44 ||| ((1 : Int32) <<< (x2 &&& 31))) (fun D45 => j247 x2 x3 x4 x5 x6 x7 D45)))))))))))))))) else zref w 3 2 a (fun p13 => zref w 3 1 a (fun p14 => zref w 4 0 p14 (fun p15 => zald w D11 0 p15 x7 (fun v16 => zref w 3 1 a (fun p17 => zref w 4 1 p17 (fun p18 => zald w D11 0 p18 x7 (fun v19 => zobj w 7 p13 (zci (f_Walls_isBetween w D11 p13 x5 x3 x4 v16 v19) (fun v20 D21 => (if v20 = 0 then j247 x2 x3 x4 x5 x6 x7 D21 else zref w 3 3 a (fun p22 => zref w 5 5 p22 (fun p23 => zald w D21 0 p23 x1 (fun v24 => zast w D21 0 p23 x1 (v24 ||| ((1 : Int32) <<< (x7 &&& 31))) (fun D25 => zref w 3 4 a (fun p26 => zci (f_Ears_pairOf w D25 x7 x2) (fun v27 D28 => zobj w 1 p26 (zcv (f_Ears_hearEcho w D28 p26 v27) (fun D29 => j247 x2 x3 x4 x5 x6 x7 D29))))))))))))))))))) else j247 x2 x3 x4 x5 x6 x7 D11)))))))))))))) zfuel) (fun j61 => zref w 3 3 a (fun p46 => zref w 5 0 p46 (fun p47 => zald w D 0 p47 x1 (fun v48 => zref w 3 3 a (fun p49 => zref w 5 1 p49 (fun p50 => zald w D 0 p50 x1 (fun v51 => zref w 3 3 a (fun p52 => zref w 5 2 p52 (fun p53 => zald w D 0 p53 x1 (fun v54 => zref w 3 3 a (fun p55 => zref w 5 4 p55 (fun p56 => zald w D 0 p56 x1 (fun v57 => zfld w D 3 5 a (fun v58 => zref w 3 3 a (fun p59 => zref w 5 3 p59 (fun p60 => zald w D 0 p60 x1 (fun v61 => zlet (v58 - v61) (fun v62 => j61 v48 v51 v54 v57 v62 (0 : Int32) D))))))))))))))))))
set_option maxHeartbeats 4000000 in
set_option maxRecDepth 100000 in
theorem c_Field_hearPulse (z : zT) (D : zD) (a : Nat) (x1 : Int32) : zM Y_Field_hearPulse 3 0 0 (zqV z) (f_Field_hearPulse z.2 D a x1) [.ref a, .int x1] z D := by
  refine zM_of (plainFor_of_name (by decide +kernel)) rfl (Nat.le_of_ble_eq_true rfl) (fun _ _ _ _ h => nomatch h.1) (fun K => ?_)
  unfold f_Field_hearPulse
  refine z_jp (fun j61 : Int32 → Int32 → Int32 → Int32 → Int32 → Int32 → zD → Option (zD) => ∀ (x2 : Int32) (x3 : Int32) (x4 : Int32) (x5 : Int32) (x6 : Int32) (x7 : Int32) (D1 : zD), zGO K Y_Field_hearPulse 3 0 0 (zqV z) (j61 x2 x3 x4 x5 x6 x7 D1) 0 0 z D1 61 [(0, .ref a), (1, .int x1), (2, .int x2), (3, .int x3), (4, .int x4), (5, .int x5), (6, .int x6), (7, .int x7)] []) (z_lp (fun j61 : Int32 → Int32 → Int32 → Int32 → Int32 → Int32 → zD → Option (zD) => ∀ (x2 : Int32) (x3 : Int32) (x4 : Int32) (x5 : Int32) (x6 : Int32) (x7 : Int32) (D1 : zD), zGO K Y_Field_hearPulse 3 0 0 (zqV z) (j61 x2 x3 x4 x5 x6 x7 D1) 0 0 z D1 61 [(0, .ref a), (1, .int x1), (2, .int x2), (3, .int x3), (4, .int x4), (5, .int x5), (6, .int x6), (7, .int x7)] []) (fun _ _ _ _ _ _ _ => z_none) (fun j61 h61 x2 x3 x4 x5 x6 x7 D1 => ?_) zfuel) (fun j61 h61 => ?_)
  · refine z_iload (pc := 61) d_Field_hearPulse_61 7 rfl ?_
    refine z_aload_n (pc := 63) d_Field_hearPulse_63 rfl 0 rfl ?_
    refine z_getR (pc := 64) fl_Field_21 d_Field_hearPulse_64 (fun p2 => ?_)
    refine z_getI (pc := 67) fl_Field_178 d_Field_hearPulse_67 (fun v3 => ?_)
    refine z_icmp_ge (pc := 70) (tgt := 253) d_Field_hearPulse_70 (by decide) ?_ ?_
    · exact z_vret (pc := 253) d_Field_hearPulse_253 rfl
    · refine z_jp (fun j247 : Int32 → Int32 → Int32 → Int32 → Int32 → Int32 → zD → Option (zD) => ∀ (x2 : Int32) (x3 : Int32) (x4 : Int32) (x5 : Int32) (x6 : Int32) (x7 : Int32) (D4 : zD), zGO K Y_Field_hearPulse 3 0 0 (zqV z) (j247 x2 x3 x4 x5 x6 x7 D4) 0 0 z D4 247 [(0, .ref a), (1, .int x1), (2, .int x2), (3, .int x3), (4, .int x4), (5, .int x5), (6, .int x6), (7, .int x7)] []) (fun x2 x3 x4 x5 x6 x7 D4 => ?_) (fun j247 h247 => ?_)
      · refine z_iincL (pc := 247) d_Field_hearPulse_247 ki_1 7 rfl (by decide) (fun v5 => z_lvc (lv2 := [(7, .int v5), (0, .ref a), (1, .int x1), (2, .int x2), (3, .int x3), (4, .int x4), (5, .int x5), (6, .int x6)]) rfl ?_)
        refine z_goto (pc := 250) (tgt := 61) d_Field_hearPulse_250 (by decide) ?_
        exact z_sub [1, 2, 3, 4, 5, 6, 7, 0] rfl (h61 x2 x3 x4 x5 x6 v5 D4)
      · refine z_aload_n (pc := 73) d_Field_hearPulse_73 rfl 0 rfl ?_
        refine z_getR (pc := 74) fl_Field_35 d_Field_hearPulse_74 (fun p6 => ?_)
        refine z_getR (pc := 77) fl_Field_179 d_Field_hearPulse_77 (fun p7 => ?_)
        refine z_iload_n (pc := 80) d_Field_hearPulse_80 rfl 1 rfl ?_
        refine z_iaload (pc := 81) d_Field_hearPulse_81 (fun v8 => ?_)
        refine z_iload (pc := 82) d_Field_hearPulse_82 7 rfl ?_
        refine z_ishr (pc := 84) d_Field_hearPulse_84 ?_
        refine z_iconst (pc := 85) d_Field_hearPulse_85 ki_1 ?_
        refine z_iand (pc := 86) d_Field_hearPulse_86 ?_
        refine z_iconst (pc := 87) d_Field_hearPulse_87 ki_1 ?_
        refine z_icmp_eq (pc := 88) (tgt := 247) d_Field_hearPulse_88 (by decide) ?_ ?_
        · exact z_sub [0, 1, 2, 3, 4, 5, 6, 7] rfl (h247 x2 x3 x4 x5 x6 x7 D1)
        · refine z_aload_n (pc := 91) d_Field_hearPulse_91 rfl 0 rfl ?_
          refine z_getR (pc := 92) fl_Field_21 d_Field_hearPulse_92 (fun p9 => ?_)
          refine z_iload (pc := 95) d_Field_hearPulse_95 7 rfl ?_
          refine z_iload_n (pc := 97) d_Field_hearPulse_97 rfl 3 rfl ?_
          refine z_iload (pc := 98) d_Field_hearPulse_98 4 rfl ?_
          refine z_callVi (pc := 100) [.int x7, .int x3, .int x4] lkV_Field_182 rfl (c_Hearers_wayTo z D1 p9 x7 x3 x4) (by decide) rfl rfl (Nat.le_of_ble_eq_true rfl) d_Field_hearPulse_100 (fun v10 D11 => ?_)
          refine z_aload_n (pc := 103) d_Field_hearPulse_103 rfl 0 rfl ?_
          refine z_getI (pc := 104) fl_Field_46 d_Field_hearPulse_104 (fun v12 => ?_)
          refine z_iload (pc := 107) d_Field_hearPulse_107 6 rfl ?_
          refine z_imul (pc := 109) d_Field_hearPulse_109 ?_
          refine z_icmp_le (pc := 110) (tgt := 116) d_Field_hearPulse_110 (by decide) ?_ ?_
          · refine z_iload (pc := 116) d_Field_hearPulse_116 5 rfl ?_
            refine z_iconst (pc := 118) d_Field_hearPulse_118 ki_m1 ?_
            refine z_icmp_ne (pc := 119) (tgt := 183) d_Field_hearPulse_119 (by decide) ?_ ?_
            · refine z_aload_n (pc := 122) d_Field_hearPulse_122 rfl 0 rfl ?_
              refine z_getR (pc := 123) fl_Field_35 d_Field_hearPulse_123 (fun p30 => ?_)
              refine z_getR (pc := 126) fl_Field_179 d_Field_hearPulse_126 (fun p31 => ?_)
              refine z_iload_n (pc := 129) d_Field_hearPulse_129 rfl 1 rfl ?_
              refine z_dup2 (pc := 130) d_Field_hearPulse_130 rfl rfl ?_
              refine z_iaload (pc := 131) d_Field_hearPulse_131 (fun v32 => ?_)
              refine z_iconst (pc := 132) d_Field_hearPulse_132 ki_1 ?_
              refine z_iload (pc := 133) d_Field_hearPulse_133 7 rfl ?_
              refine z_ishl (pc := 135) d_Field_hearPulse_135 ?_
              refine z_ior (pc := 136) d_Field_hearPulse_136 ?_
              refine z_iastore (pc := 137) d_Field_hearPulse_137 (fun D33 => ?_)
              refine z_aload_n (pc := 138) d_Field_hearPulse_138 rfl 0 rfl ?_
              refine z_getR (pc := 139) fl_Field_42 d_Field_hearPulse_139 (fun p34 => ?_)
              refine z_iload (pc := 142) d_Field_hearPulse_142 7 rfl ?_
              refine z_iload_n (pc := 144) d_Field_hearPulse_144 rfl 2 rfl ?_
              refine z_callSi (pc := 145) [.int x7, .int x2] lkS_Field_92 (c_Ears_pairOf z D33 x7 x2) (by decide) rfl rfl (Nat.le_of_ble_eq_true rfl) d_Field_hearPulse_145 (fun v35 D36 => ?_)
              refine z_aload_n (pc := 148) d_Field_hearPulse_148 rfl 0 rfl ?_
              refine z_getR (pc := 149) fl_Field_35 d_Field_hearPulse_149 (fun p37 => ?_)
              refine z_getR (pc := 152) fl_Field_176 d_Field_hearPulse_152 (fun p38 => ?_)
              refine z_iload_n (pc := 155) d_Field_hearPulse_155 rfl 1 rfl ?_
              refine z_iaload (pc := 156) d_Field_hearPulse_156 (fun v39 => ?_)
              refine z_aload_n (pc := 157) d_Field_hearPulse_157 rfl 0 rfl ?_
              refine z_getI (pc := 158) fl_Field_69 d_Field_hearPulse_158 (fun v40 => ?_)
              refine z_callVv (pc := 161) [.int v35, .int v39, .int v40] lkV_Field_186 rfl (c_Ears_hearDirect z D36 p34 v35 v39 v40) (by decide) rfl rfl (Nat.le_of_ble_eq_true rfl) d_Field_hearPulse_161 (fun D41 => ?_)
              refine z_aload_n (pc := 164) d_Field_hearPulse_164 rfl 0 rfl ?_
              refine z_getR (pc := 165) fl_Field_21 d_Field_hearPulse_165 (fun p42 => ?_)
              refine z_getR (pc := 168) fl_Field_190 d_Field_hearPulse_168 (fun p43 => ?_)
              refine z_iload (pc := 171) d_Field_hearPulse_171 7 rfl ?_
              refine z_dup2 (pc := 173) d_Field_hearPulse_173 rfl rfl ?_
              refine z_iaload (pc := 174) d_Field_hearPulse_174 (fun v44 => ?_)
              refine z_iconst (pc := 175) d_Field_hearPulse_175 ki_1 ?_
              refine z_iload_n (pc := 176) d_Field_hearPulse_176 rfl 2 rfl ?_
              refine z_ishl (pc := 177) d_Field_hearPulse_177 ?_
              refine z_ior (pc := 178) d_Field_hearPulse_178 ?_
              refine z_iastore (pc := 179) d_Field_hearPulse_179 (fun D45 => ?_)
              refine z_goto (pc := 180) (tgt := 247) d_Field_hearPulse_180 (by decide) ?_
              exact z_sub [0, 1, 2, 3, 4, 5, 6, 7] rfl (h247 x2 x3 x4 x5 x6 x7 D45)
            · refine z_aload_n (pc := 183) d_Field_hearPulse_183 rfl 0 rfl ?_
              refine z_getR (pc := 184) fl_Field_28 d_Field_hearPulse_184 (fun p13 => ?_)
              refine z_iload (pc := 187) d_Field_hearPulse_187 5 rfl ?_
              refine z_iload_n (pc := 189) d_Field_hearPulse_189 rfl 3 rfl ?_
              refine z_iload (pc := 190) d_Field_hearPulse_190 4 rfl ?_
              refine z_aload_n (pc := 192) d_Field_hearPulse_192 rfl 0 rfl ?_
              refine z_getR (pc := 193) fl_Field_21 d_Field_hearPulse_193 (fun p14 => ?_)
              refine z_getR (pc := 196) fl_Field_193 d_Field_hearPulse_196 (fun p15 => ?_)
              refine z_iload (pc := 199) d_Field_hearPulse_199 7 rfl ?_
              refine z_iaload (pc := 201) d_Field_hearPulse_201 (fun v16 => ?_)
              refine z_aload_n (pc := 202) d_Field_hearPulse_202 rfl 0 rfl ?_
              refine z_getR (pc := 203) fl_Field_21 d_Field_hearPulse_203 (fun p17 => ?_)
              refine z_getR (pc := 206) fl_Field_194 d_Field_hearPulse_206 (fun p18 => ?_)
              refine z_iload (pc := 209) d_Field_hearPulse_209 7 rfl ?_
              refine z_iaload (pc := 211) d_Field_hearPulse_211 (fun v19 => ?_)
              refine z_callVi (pc := 212) [.int x5, .int x3, .int x4, .int v16, .int v19] lkV_Field_195 rfl (c_Walls_isBetween z D11 p13 x5 x3 x4 v16 v19) (by decide) rfl rfl (Nat.le_of_ble_eq_true rfl) d_Field_hearPulse_212 (fun v20 D21 => ?_)
              refine z_if_eq (pc := 215) (tgt := 247) d_Field_hearPulse_215 (by decide) ?_ ?_
              · exact z_sub [0, 1, 2, 3, 4, 5, 6, 7] rfl (h247 x2 x3 x4 x5 x6 x7 D21)
              · refine z_aload_n (pc := 218) d_Field_hearPulse_218 rfl 0 rfl ?_
                refine z_getR (pc := 219) fl_Field_35 d_Field_hearPulse_219 (fun p22 => ?_)
                refine z_getR (pc := 222) fl_Field_179 d_Field_hearPulse_222 (fun p23 => ?_)
                refine z_iload_n (pc := 225) d_Field_hearPulse_225 rfl 1 rfl ?_
                refine z_dup2 (pc := 226) d_Field_hearPulse_226 rfl rfl ?_
                refine z_iaload (pc := 227) d_Field_hearPulse_227 (fun v24 => ?_)
                refine z_iconst (pc := 228) d_Field_hearPulse_228 ki_1 ?_
                refine z_iload (pc := 229) d_Field_hearPulse_229 7 rfl ?_
                refine z_ishl (pc := 231) d_Field_hearPulse_231 ?_
                refine z_ior (pc := 232) d_Field_hearPulse_232 ?_
                refine z_iastore (pc := 233) d_Field_hearPulse_233 (fun D25 => ?_)
                refine z_aload_n (pc := 234) d_Field_hearPulse_234 rfl 0 rfl ?_
                refine z_getR (pc := 235) fl_Field_42 d_Field_hearPulse_235 (fun p26 => ?_)
                refine z_iload (pc := 238) d_Field_hearPulse_238 7 rfl ?_
                refine z_iload_n (pc := 240) d_Field_hearPulse_240 rfl 2 rfl ?_
                refine z_callSi (pc := 241) [.int x7, .int x2] lkS_Field_92 (c_Ears_pairOf z D25 x7 x2) (by decide) rfl rfl (Nat.le_of_ble_eq_true rfl) d_Field_hearPulse_241 (fun v27 D28 => ?_)
                refine z_callVv (pc := 244) [.int v27] lkV_Field_199 rfl (c_Ears_hearEcho z D28 p26 v27) (by decide) rfl rfl (Nat.le_of_ble_eq_true rfl) d_Field_hearPulse_244 (fun D29 => ?_)
                exact z_sub [0, 1, 2, 3, 4, 5, 6, 7] rfl (h247 x2 x3 x4 x5 x6 x7 D29)
          · refine z_goto (pc := 113) (tgt := 247) d_Field_hearPulse_113 (by decide) ?_
            exact z_sub [0, 1, 2, 3, 4, 5, 6, 7] rfl (h247 x2 x3 x4 x5 x6 x7 D11)
  · refine z_aload_n (pc := 0) d_Field_hearPulse_0 rfl 0 rfl ?_
    refine z_getR (pc := 1) fl_Field_35 d_Field_hearPulse_1 (fun p46 => ?_)
    refine z_getR (pc := 4) fl_Field_164 d_Field_hearPulse_4 (fun p47 => ?_)
    refine z_iload_n (pc := 7) d_Field_hearPulse_7 rfl 1 rfl ?_
    refine z_iaload (pc := 8) d_Field_hearPulse_8 (fun v48 => ?_)
    refine z_istore_n (pc := 9) d_Field_hearPulse_9 rfl (by decide) (lv' := [(2, .int v48), (0, .ref a), (1, .int x1)]) rfl ?_
    refine z_aload_n (pc := 10) d_Field_hearPulse_10 rfl 1 rfl ?_
    refine z_getR (pc := 11) fl_Field_35 d_Field_hearPulse_11 (fun p49 => ?_)
    refine z_getR (pc := 14) fl_Field_167 d_Field_hearPulse_14 (fun p50 => ?_)
    refine z_iload_n (pc := 17) d_Field_hearPulse_17 rfl 2 rfl ?_
    refine z_iaload (pc := 18) d_Field_hearPulse_18 (fun v51 => ?_)
    refine z_istore_n (pc := 19) d_Field_hearPulse_19 rfl (by decide) (lv' := [(3, .int v51), (2, .int v48), (0, .ref a), (1, .int x1)]) rfl ?_
    refine z_aload_n (pc := 20) d_Field_hearPulse_20 rfl 2 rfl ?_
    refine z_getR (pc := 21) fl_Field_35 d_Field_hearPulse_21 (fun p52 => ?_)
    refine z_getR (pc := 24) fl_Field_170 d_Field_hearPulse_24 (fun p53 => ?_)
    refine z_iload_n (pc := 27) d_Field_hearPulse_27 rfl 3 rfl ?_
    refine z_iaload (pc := 28) d_Field_hearPulse_28 (fun v54 => ?_)
    refine z_istore (pc := 29) d_Field_hearPulse_29 (by decide) (lv' := [(4, .int v54), (3, .int v51), (2, .int v48), (0, .ref a), (1, .int x1)]) rfl ?_
    refine z_aload_n (pc := 31) d_Field_hearPulse_31 rfl 3 rfl ?_
    refine z_getR (pc := 32) fl_Field_35 d_Field_hearPulse_32 (fun p55 => ?_)
    refine z_getR (pc := 35) fl_Field_173 d_Field_hearPulse_35 (fun p56 => ?_)
    refine z_iload_n (pc := 38) d_Field_hearPulse_38 rfl 4 rfl ?_
    refine z_iaload (pc := 39) d_Field_hearPulse_39 (fun v57 => ?_)
    refine z_istore (pc := 40) d_Field_hearPulse_40 (by decide) (lv' := [(5, .int v57), (4, .int v54), (3, .int v51), (2, .int v48), (0, .ref a), (1, .int x1)]) rfl ?_
    refine z_aload_n (pc := 42) d_Field_hearPulse_42 rfl 4 rfl ?_
    refine z_getI (pc := 43) fl_Field_69 d_Field_hearPulse_43 (fun v58 => ?_)
    refine z_aload_n (pc := 46) d_Field_hearPulse_46 rfl 4 rfl ?_
    refine z_getR (pc := 47) fl_Field_35 d_Field_hearPulse_47 (fun p59 => ?_)
    refine z_getR (pc := 50) fl_Field_176 d_Field_hearPulse_50 (fun p60 => ?_)
    refine z_iload_n (pc := 53) d_Field_hearPulse_53 rfl 5 rfl ?_
    refine z_iaload (pc := 54) d_Field_hearPulse_54 (fun v61 => ?_)
    refine z_isub (pc := 55) d_Field_hearPulse_55 ?_
    refine z_leti (fun v62 => ?_)
    refine z_istore (pc := 56) d_Field_hearPulse_56 (by decide) (lv' := [(6, .int v62), (5, .int v57), (4, .int v54), (3, .int v51), (2, .int v48), (0, .ref a), (1, .int x1)]) rfl ?_
    refine z_iconst (pc := 58) d_Field_hearPulse_58 ki_0 ?_
    refine z_istore (pc := 59) d_Field_hearPulse_59 (by decide) (lv' := [(7, .int (0 : Int32)), (6, .int v62), (5, .int v57), (4, .int v54), (3, .int v51), (2, .int v48), (0, .ref a), (1, .int x1)]) rfl ?_
    exact z_sub [6, 7, 5, 4, 3, 2, 1, 0] rfl (h61 v48 v51 v54 v57 v62 (0 : Int32) D)
theorem d_Field_givePulses_0 : decode Y_Field_givePulses.2.1 0 = .ok (.aload_n 0, 1) := by decide +kernel
theorem d_Field_givePulses_1 : decode Y_Field_givePulses.2.1 1 = .ok (.getfield 12, 3) := by decide +kernel
theorem d_Field_givePulses_4 : decode Y_Field_givePulses.2.1 4 = .ok (.iload_n 1, 1) := by decide +kernel
theorem d_Field_givePulses_5 : decode Y_Field_givePulses.2.1 5 = .ok (.invokevirtual 127, 3) := by decide +kernel
theorem d_Field_givePulses_8 : decode Y_Field_givePulses.2.1 8 = .ok (.istore_n 2, 1) := by decide +kernel
theorem d_Field_givePulses_9 : decode Y_Field_givePulses.2.1 9 = .ok (.aload_n 0, 1) := by decide +kernel
theorem d_Field_givePulses_10 : decode Y_Field_givePulses.2.1 10 = .ok (.getfield 12, 3) := by decide +kernel
theorem d_Field_givePulses_13 : decode Y_Field_givePulses.2.1 13 = .ok (.iload_n 1, 1) := by decide +kernel
theorem d_Field_givePulses_14 : decode Y_Field_givePulses.2.1 14 = .ok (.invokevirtual 131, 3) := by decide +kernel
theorem d_Field_givePulses_17 : decode Y_Field_givePulses.2.1 17 = .ok (.istore_n 3, 1) := by decide +kernel
theorem d_Field_givePulses_18 : decode Y_Field_givePulses.2.1 18 = .ok (.aload_n 0, 1) := by decide +kernel
theorem d_Field_givePulses_19 : decode Y_Field_givePulses.2.1 19 = .ok (.iload_n 1, 1) := by decide +kernel
theorem d_Field_givePulses_20 : decode Y_Field_givePulses.2.1 20 = .ok (.iload_n 2, 1) := by decide +kernel
theorem d_Field_givePulses_21 : decode Y_Field_givePulses.2.1 21 = .ok (.iload_n 3, 1) := by decide +kernel
theorem d_Field_givePulses_22 : decode Y_Field_givePulses.2.1 22 = .ok (.iconst (-1), 1) := by decide +kernel
theorem d_Field_givePulses_23 : decode Y_Field_givePulses.2.1 23 = .ok (.invokevirtual 134, 3) := by decide +kernel
theorem d_Field_givePulses_26 : decode Y_Field_givePulses.2.1 26 = .ok (.iconst (0), 1) := by decide +kernel
theorem d_Field_givePulses_27 : decode Y_Field_givePulses.2.1 27 = .ok (.istore 4, 2) := by decide +kernel
theorem d_Field_givePulses_29 : decode Y_Field_givePulses.2.1 29 = .ok (.iload 4, 2) := by decide +kernel
theorem d_Field_givePulses_31 : decode Y_Field_givePulses.2.1 31 = .ok (.aload_n 0, 1) := by decide +kernel
theorem d_Field_givePulses_32 : decode Y_Field_givePulses.2.1 32 = .ok (.getfield 28, 3) := by decide +kernel
theorem d_Field_givePulses_35 : decode Y_Field_givePulses.2.1 35 = .ok (.getfield 138, 3) := by decide +kernel
theorem d_Field_givePulses_38 : decode Y_Field_givePulses.2.1 38 = .ok (.if_icmp .ge (90), 3) := by decide +kernel
theorem d_Field_givePulses_41 : decode Y_Field_givePulses.2.1 41 = .ok (.aload_n 0, 1) := by decide +kernel
theorem d_Field_givePulses_42 : decode Y_Field_givePulses.2.1 42 = .ok (.getfield 28, 3) := by decide +kernel
theorem d_Field_givePulses_45 : decode Y_Field_givePulses.2.1 45 = .ok (.getfield 139, 3) := by decide +kernel
theorem d_Field_givePulses_48 : decode Y_Field_givePulses.2.1 48 = .ok (.iload 4, 2) := by decide +kernel
theorem d_Field_givePulses_50 : decode Y_Field_givePulses.2.1 50 = .ok (.iaload, 1) := by decide +kernel
theorem d_Field_givePulses_51 : decode Y_Field_givePulses.2.1 51 = .ok (.istore 5, 2) := by decide +kernel
theorem d_Field_givePulses_53 : decode Y_Field_givePulses.2.1 53 = .ok (.aload_n 0, 1) := by decide +kernel
theorem d_Field_givePulses_54 : decode Y_Field_givePulses.2.1 54 = .ok (.getfield 28, 3) := by decide +kernel
theorem d_Field_givePulses_57 : decode Y_Field_givePulses.2.1 57 = .ok (.getfield 142, 3) := by decide +kernel
theorem d_Field_givePulses_60 : decode Y_Field_givePulses.2.1 60 = .ok (.iload 4, 2) := by decide +kernel
theorem d_Field_givePulses_62 : decode Y_Field_givePulses.2.1 62 = .ok (.baload, 1) := by decide +kernel
theorem d_Field_givePulses_63 : decode Y_Field_givePulses.2.1 63 = .ok (.ifCond .eq (26), 3) := by decide +kernel
theorem d_Field_givePulses_66 : decode Y_Field_givePulses.2.1 66 = .ok (.iload_n 2, 1) := by decide +kernel
theorem d_Field_givePulses_67 : decode Y_Field_givePulses.2.1 67 = .ok (.iload 5, 2) := by decide +kernel
theorem d_Field_givePulses_69 : decode Y_Field_givePulses.2.1 69 = .ok (.if_icmp .eq (20), 3) := by decide +kernel
theorem d_Field_givePulses_72 : decode Y_Field_givePulses.2.1 72 = .ok (.aload_n 0, 1) := by decide +kernel
theorem d_Field_givePulses_73 : decode Y_Field_givePulses.2.1 73 = .ok (.iload_n 1, 1) := by decide +kernel
theorem d_Field_givePulses_74 : decode Y_Field_givePulses.2.1 74 = .ok (.iconst (2), 1) := by decide +kernel
theorem d_Field_givePulses_75 : decode Y_Field_givePulses.2.1 75 = .ok (.iload 5, 2) := by decide +kernel
theorem d_Field_givePulses_77 : decode Y_Field_givePulses.2.1 77 = .ok (.imul, 1) := by decide +kernel
theorem d_Field_givePulses_78 : decode Y_Field_givePulses.2.1 78 = .ok (.iload_n 2, 1) := by decide +kernel
theorem d_Field_givePulses_79 : decode Y_Field_givePulses.2.1 79 = .ok (.isub, 1) := by decide +kernel
theorem d_Field_givePulses_80 : decode Y_Field_givePulses.2.1 80 = .ok (.iload_n 3, 1) := by decide +kernel
theorem d_Field_givePulses_81 : decode Y_Field_givePulses.2.1 81 = .ok (.iload 4, 2) := by decide +kernel
theorem d_Field_givePulses_83 : decode Y_Field_givePulses.2.1 83 = .ok (.invokevirtual 134, 3) := by decide +kernel
theorem d_Field_givePulses_86 : decode Y_Field_givePulses.2.1 86 = .ok (.goto (36), 3) := by decide +kernel
theorem d_Field_givePulses_89 : decode Y_Field_givePulses.2.1 89 = .ok (.aload_n 0, 1) := by decide +kernel
theorem d_Field_givePulses_90 : decode Y_Field_givePulses.2.1 90 = .ok (.getfield 28, 3) := by decide +kernel
theorem d_Field_givePulses_93 : decode Y_Field_givePulses.2.1 93 = .ok (.getfield 142, 3) := by decide +kernel
theorem d_Field_givePulses_96 : decode Y_Field_givePulses.2.1 96 = .ok (.iload 4, 2) := by decide +kernel
theorem d_Field_givePulses_98 : decode Y_Field_givePulses.2.1 98 = .ok (.baload, 1) := by decide +kernel
theorem d_Field_givePulses_99 : decode Y_Field_givePulses.2.1 99 = .ok (.ifCond .ne (23), 3) := by decide +kernel
theorem d_Field_givePulses_102 : decode Y_Field_givePulses.2.1 102 = .ok (.iload_n 3, 1) := by decide +kernel
theorem d_Field_givePulses_103 : decode Y_Field_givePulses.2.1 103 = .ok (.iload 5, 2) := by decide +kernel
theorem d_Field_givePulses_105 : decode Y_Field_givePulses.2.1 105 = .ok (.if_icmp .eq (17), 3) := by decide +kernel
theorem d_Field_givePulses_108 : decode Y_Field_givePulses.2.1 108 = .ok (.aload_n 0, 1) := by decide +kernel
theorem d_Field_givePulses_109 : decode Y_Field_givePulses.2.1 109 = .ok (.iload_n 1, 1) := by decide +kernel
theorem d_Field_givePulses_110 : decode Y_Field_givePulses.2.1 110 = .ok (.iload_n 2, 1) := by decide +kernel
theorem d_Field_givePulses_111 : decode Y_Field_givePulses.2.1 111 = .ok (.iconst (2), 1) := by decide +kernel
theorem d_Field_givePulses_112 : decode Y_Field_givePulses.2.1 112 = .ok (.iload 5, 2) := by decide +kernel
theorem d_Field_givePulses_114 : decode Y_Field_givePulses.2.1 114 = .ok (.imul, 1) := by decide +kernel
theorem d_Field_givePulses_115 : decode Y_Field_givePulses.2.1 115 = .ok (.iload_n 3, 1) := by decide +kernel
theorem d_Field_givePulses_116 : decode Y_Field_givePulses.2.1 116 = .ok (.isub, 1) := by decide +kernel
theorem d_Field_givePulses_117 : decode Y_Field_givePulses.2.1 117 = .ok (.iload 4, 2) := by decide +kernel
theorem d_Field_givePulses_119 : decode Y_Field_givePulses.2.1 119 = .ok (.invokevirtual 134, 3) := by decide +kernel
theorem d_Field_givePulses_122 : decode Y_Field_givePulses.2.1 122 = .ok (.iinc 4 (1), 3) := by decide +kernel
theorem d_Field_givePulses_125 : decode Y_Field_givePulses.2.1 125 = .ok (.goto (-96), 3) := by decide +kernel
theorem d_Field_givePulses_128 : decode Y_Field_givePulses.2.1 128 = .ok (.return_, 1) := by decide +kernel
def f_Field_givePulses (w : zW) (D : zD) (a : Nat) (x1 : Int32) : Option (zD) := zjp (zlp (fun (_ : Int32) (_ : Int32) (_ : Int32) (_ : zD) => none) (fun (j29 : Int32 → Int32 → Int32 → zD → Option (zD)) (x2 : Int32) (x3 : Int32) (x4 : Int32) (D1 : zD) => zref w 3 2 a (fun p2 => zfld w D1 7 2 p2 (fun v3 => (if v3 ≤ x4 then some D1 else zjp (fun (x2 : Int32) (x3 : Int32) (x4 : Int32) (D4 : zD) => zlet (x4 + (1 : Int32)) (fun v5 => j29 x2 x3 v5 D4)) (fun j122 => zjp (fun (x2 : Int32) (x3 : Int32) (x4 : Int32) (x5 : Int32) (D6 : zD) => zref w 3 2 a (fun p7 => zref w 7 0 p7 (fun p8 => zald w D6 2 p8 x4 (fun v9 => (if v9 = 0 then (if x3 = x5 then j122 x2 x3 x4 D6 else zobj w 3 a (zcv (f_Field_give w D6 a x1 x2 (((2 : Int32) * x5) - x3) x4) (fun D10 => j122 x2 x3 x4 D10))) else j122 x2 x3 x4 D6))))) (fun j89 => zref w 3 2 a (fun p11 => zref w 7 1 p11 (fun p12 => zald w D1 0 p12 x4 (fun v13 => zref w 3 2 a (fun p14 => zref w 7 0 p14 (fun p15 => zald w D1 2 p15 x4 (fun v16 => (if v16 = 0 then j89 x2 x3 x4 v13 D1 else (if x2 = v13 then j89 x2 x3 x4 v13 D1 else zobj w 3 a (zcv (f_Field_give w D1 a x1 (((2 : Int32) * v13) - x2) x3 x4) (fun D17 => j122 x2 x3 x4 D17)))))))))))))))) zfuel) (fun j29 => zref w 3 0 a (fun p18 => zobj w 6 p18 (zci (f_Sirens_placeX w D p18 x1) (fun v19 D20 => zref w 3 0 a (fun p21 => zobj w 6 p21 (zci (f_Sirens_placeY w D20 p21 x1) (fun v22 D23 => zobj w 3 a (zcv (f_Field_give w D23 a x1 v19 v22 (-1 : Int32)) (fun D24 => j29 v19 v22 (0 : Int32) D24)))))))))
set_option maxHeartbeats 4000000 in
set_option maxRecDepth 100000 in
theorem c_Field_givePulses (z : zT) (D : zD) (a : Nat) (x1 : Int32) : zM Y_Field_givePulses 4 0 0 (zqV z) (f_Field_givePulses z.2 D a x1) [.ref a, .int x1] z D := by
  refine zM_of (plainFor_of_name (by decide +kernel)) rfl (Nat.le_of_ble_eq_true rfl) (fun _ _ _ _ h => nomatch h.1) (fun K => ?_)
  unfold f_Field_givePulses
  refine z_jp (fun j29 : Int32 → Int32 → Int32 → zD → Option (zD) => ∀ (x2 : Int32) (x3 : Int32) (x4 : Int32) (D1 : zD), zGO K Y_Field_givePulses 4 0 0 (zqV z) (j29 x2 x3 x4 D1) 0 0 z D1 29 [(0, .ref a), (1, .int x1), (2, .int x2), (3, .int x3), (4, .int x4)] []) (z_lp (fun j29 : Int32 → Int32 → Int32 → zD → Option (zD) => ∀ (x2 : Int32) (x3 : Int32) (x4 : Int32) (D1 : zD), zGO K Y_Field_givePulses 4 0 0 (zqV z) (j29 x2 x3 x4 D1) 0 0 z D1 29 [(0, .ref a), (1, .int x1), (2, .int x2), (3, .int x3), (4, .int x4)] []) (fun _ _ _ _ => z_none) (fun j29 h29 x2 x3 x4 D1 => ?_) zfuel) (fun j29 h29 => ?_)
  · refine z_iload (pc := 29) d_Field_givePulses_29 4 rfl ?_
    refine z_aload_n (pc := 31) d_Field_givePulses_31 rfl 0 rfl ?_
    refine z_getR (pc := 32) fl_Field_28 d_Field_givePulses_32 (fun p2 => ?_)
    refine z_getI (pc := 35) fl_Field_138 d_Field_givePulses_35 (fun v3 => ?_)
    refine z_icmp_ge (pc := 38) (tgt := 128) d_Field_givePulses_38 (by decide) ?_ ?_
    · exact z_vret (pc := 128) d_Field_givePulses_128 rfl
    · refine z_jp (fun j122 : Int32 → Int32 → Int32 → zD → Option (zD) => ∀ (x2 : Int32) (x3 : Int32) (x4 : Int32) (D4 : zD), zGO K Y_Field_givePulses 4 0 0 (zqV z) (j122 x2 x3 x4 D4) 0 0 z D4 122 [(0, .ref a), (1, .int x1), (2, .int x2), (3, .int x3), (4, .int x4)] []) (fun x2 x3 x4 D4 => ?_) (fun j122 h122 => ?_)
      · refine z_iincL (pc := 122) d_Field_givePulses_122 ki_1 4 rfl (by decide) (fun v5 => z_lvc (lv2 := [(4, .int v5), (0, .ref a), (1, .int x1), (2, .int x2), (3, .int x3)]) rfl ?_)
        refine z_goto (pc := 125) (tgt := 29) d_Field_givePulses_125 (by decide) ?_
        exact z_sub [1, 2, 3, 4, 0] rfl (h29 x2 x3 v5 D4)
      · refine z_jp (fun j89 : Int32 → Int32 → Int32 → Int32 → zD → Option (zD) => ∀ (x2 : Int32) (x3 : Int32) (x4 : Int32) (x5 : Int32) (D6 : zD), zGO K Y_Field_givePulses 4 0 0 (zqV z) (j89 x2 x3 x4 x5 D6) 0 0 z D6 89 [(0, .ref a), (1, .int x1), (2, .int x2), (3, .int x3), (4, .int x4), (5, .int x5)] []) (fun x2 x3 x4 x5 D6 => ?_) (fun j89 h89 => ?_)
        · refine z_aload_n (pc := 89) d_Field_givePulses_89 rfl 0 rfl ?_
          refine z_getR (pc := 90) fl_Field_28 d_Field_givePulses_90 (fun p7 => ?_)
          refine z_getR (pc := 93) fl_Field_142 d_Field_givePulses_93 (fun p8 => ?_)
          refine z_iload (pc := 96) d_Field_givePulses_96 4 rfl ?_
          refine z_baload (pc := 98) d_Field_givePulses_98 (fun v9 => ?_)
          refine z_if_ne (pc := 99) (tgt := 122) d_Field_givePulses_99 (by decide) ?_ ?_
          · refine z_iload_n (pc := 102) d_Field_givePulses_102 rfl 3 rfl ?_
            refine z_iload (pc := 103) d_Field_givePulses_103 5 rfl ?_
            refine z_icmp_eq (pc := 105) (tgt := 122) d_Field_givePulses_105 (by decide) ?_ ?_
            · exact z_sub [0, 1, 2, 3, 4] rfl (h122 x2 x3 x4 D6)
            · refine z_aload_n (pc := 108) d_Field_givePulses_108 rfl 0 rfl ?_
              refine z_iload_n (pc := 109) d_Field_givePulses_109 rfl 1 rfl ?_
              refine z_iload_n (pc := 110) d_Field_givePulses_110 rfl 2 rfl ?_
              refine z_iconst (pc := 111) d_Field_givePulses_111 ki_2 ?_
              refine z_iload (pc := 112) d_Field_givePulses_112 5 rfl ?_
              refine z_imul (pc := 114) d_Field_givePulses_114 ?_
              refine z_iload_n (pc := 115) d_Field_givePulses_115 rfl 3 rfl ?_
              refine z_isub (pc := 116) d_Field_givePulses_116 ?_
              refine z_iload (pc := 117) d_Field_givePulses_117 4 rfl ?_
              refine z_callVv (pc := 119) [.int x1, .int x2, .int (((2 : Int32) * x5) - x3), .int x4] lkV_Field_134 rfl (c_Field_give z D6 a x1 x2 (((2 : Int32) * x5) - x3) x4) (by decide) rfl rfl (Nat.le_of_ble_eq_true rfl) d_Field_givePulses_119 (fun D10 => ?_)
              exact z_sub [0, 1, 2, 3, 4] rfl (h122 x2 x3 x4 D10)
          · exact z_sub [0, 1, 2, 3, 4] rfl (h122 x2 x3 x4 D6)
        · refine z_aload_n (pc := 41) d_Field_givePulses_41 rfl 0 rfl ?_
          refine z_getR (pc := 42) fl_Field_28 d_Field_givePulses_42 (fun p11 => ?_)
          refine z_getR (pc := 45) fl_Field_139 d_Field_givePulses_45 (fun p12 => ?_)
          refine z_iload (pc := 48) d_Field_givePulses_48 4 rfl ?_
          refine z_iaload (pc := 50) d_Field_givePulses_50 (fun v13 => ?_)
          refine z_istore (pc := 51) d_Field_givePulses_51 (by decide) (lv' := [(5, .int v13), (0, .ref a), (1, .int x1), (2, .int x2), (3, .int x3), (4, .int x4)]) rfl ?_
          refine z_aload_n (pc := 53) d_Field_givePulses_53 rfl 1 rfl ?_
          refine z_getR (pc := 54) fl_Field_28 d_Field_givePulses_54 (fun p14 => ?_)
          refine z_getR (pc := 57) fl_Field_142 d_Field_givePulses_57 (fun p15 => ?_)
          refine z_iload (pc := 60) d_Field_givePulses_60 5 rfl ?_
          refine z_baload (pc := 62) d_Field_givePulses_62 (fun v16 => ?_)
          refine z_if_eq (pc := 63) (tgt := 89) d_Field_givePulses_63 (by decide) ?_ ?_
          · exact z_sub [1, 2, 3, 4, 5, 0] rfl (h89 x2 x3 x4 v13 D1)
          · refine z_iload_n (pc := 66) d_Field_givePulses_66 rfl 3 rfl ?_
            refine z_iload (pc := 67) d_Field_givePulses_67 0 rfl ?_
            refine z_icmp_eq (pc := 69) (tgt := 89) d_Field_givePulses_69 (by decide) ?_ ?_
            · exact z_sub [1, 2, 3, 4, 5, 0] rfl (h89 x2 x3 x4 v13 D1)
            · refine z_aload_n (pc := 72) d_Field_givePulses_72 rfl 1 rfl ?_
              refine z_iload_n (pc := 73) d_Field_givePulses_73 rfl 2 rfl ?_
              refine z_iconst (pc := 74) d_Field_givePulses_74 ki_2 ?_
              refine z_iload (pc := 75) d_Field_givePulses_75 0 rfl ?_
              refine z_imul (pc := 77) d_Field_givePulses_77 ?_
              refine z_iload_n (pc := 78) d_Field_givePulses_78 rfl 3 rfl ?_
              refine z_isub (pc := 79) d_Field_givePulses_79 ?_
              refine z_iload_n (pc := 80) d_Field_givePulses_80 rfl 4 rfl ?_
              refine z_iload (pc := 81) d_Field_givePulses_81 5 rfl ?_
              refine z_callVv (pc := 83) [.int x1, .int (((2 : Int32) * v13) - x2), .int x3, .int x4] lkV_Field_134 rfl (c_Field_give z D1 a x1 (((2 : Int32) * v13) - x2) x3 x4) (by decide) rfl rfl (Nat.le_of_ble_eq_true rfl) d_Field_givePulses_83 (fun D17 => ?_)
              refine z_goto (pc := 86) (tgt := 122) d_Field_givePulses_86 (by decide) ?_
              exact z_sub [1, 2, 3, 4, 5] rfl (h122 x2 x3 x4 D17)
  · refine z_aload_n (pc := 0) d_Field_givePulses_0 rfl 0 rfl ?_
    refine z_getR (pc := 1) fl_Field_12 d_Field_givePulses_1 (fun p18 => ?_)
    refine z_iload_n (pc := 4) d_Field_givePulses_4 rfl 1 rfl ?_
    refine z_callVi (pc := 5) [.int x1] lkV_Field_127 rfl (c_Sirens_placeX z D p18 x1) (by decide) rfl rfl (Nat.le_of_ble_eq_true rfl) d_Field_givePulses_5 (fun v19 D20 => ?_)
    refine z_istore_n (pc := 8) d_Field_givePulses_8 rfl (by decide) (lv' := [(2, .int v19), (0, .ref a), (1, .int x1)]) rfl ?_
    refine z_aload_n (pc := 9) d_Field_givePulses_9 rfl 1 rfl ?_
    refine z_getR (pc := 10) fl_Field_12 d_Field_givePulses_10 (fun p21 => ?_)
    refine z_iload_n (pc := 13) d_Field_givePulses_13 rfl 2 rfl ?_
    refine z_callVi (pc := 14) [.int x1] lkV_Field_131 rfl (c_Sirens_placeY z D20 p21 x1) (by decide) rfl rfl (Nat.le_of_ble_eq_true rfl) d_Field_givePulses_14 (fun v22 D23 => ?_)
    refine z_istore_n (pc := 17) d_Field_givePulses_17 rfl (by decide) (lv' := [(3, .int v22), (2, .int v19), (0, .ref a), (1, .int x1)]) rfl ?_
    refine z_aload_n (pc := 18) d_Field_givePulses_18 rfl 2 rfl ?_
    refine z_iload_n (pc := 19) d_Field_givePulses_19 rfl 3 rfl ?_
    refine z_iload_n (pc := 20) d_Field_givePulses_20 rfl 1 rfl ?_
    refine z_iload_n (pc := 21) d_Field_givePulses_21 rfl 0 rfl ?_
    refine z_iconst (pc := 22) d_Field_givePulses_22 ki_m1 ?_
    refine z_callVv (pc := 23) [.int x1, .int v19, .int v22, .int (-1 : Int32)] lkV_Field_134 rfl (c_Field_give z D23 a x1 v19 v22 (-1 : Int32)) (by decide) rfl rfl (Nat.le_of_ble_eq_true rfl) d_Field_givePulses_23 (fun D24 => ?_)
    refine z_iconst (pc := 26) d_Field_givePulses_26 ki_0 ?_
    refine z_istore (pc := 27) d_Field_givePulses_27 (by decide) (lv' := [(4, .int (0 : Int32)), (3, .int v22), (2, .int v19), (0, .ref a), (1, .int x1)]) rfl ?_
    exact z_sub [3, 4, 2, 1, 0] rfl (h29 v19 v22 (0 : Int32) D24)
theorem d_Field_hearPulses_0 : decode Y_Field_hearPulses.2.1 0 = .ok (.iconst (0), 1) := by decide +kernel
theorem d_Field_hearPulses_1 : decode Y_Field_hearPulses.2.1 1 = .ok (.istore_n 1, 1) := by decide +kernel
theorem d_Field_hearPulses_2 : decode Y_Field_hearPulses.2.1 2 = .ok (.iconst (0), 1) := by decide +kernel
theorem d_Field_hearPulses_3 : decode Y_Field_hearPulses.2.1 3 = .ok (.istore_n 2, 1) := by decide +kernel
theorem d_Field_hearPulses_4 : decode Y_Field_hearPulses.2.1 4 = .ok (.iload_n 2, 1) := by decide +kernel
theorem d_Field_hearPulses_5 : decode Y_Field_hearPulses.2.1 5 = .ok (.aload_n 0, 1) := by decide +kernel
theorem d_Field_hearPulses_6 : decode Y_Field_hearPulses.2.1 6 = .ok (.getfield 35, 3) := by decide +kernel
theorem d_Field_hearPulses_9 : decode Y_Field_hearPulses.2.1 9 = .ok (.getfield 150, 3) := by decide +kernel
theorem d_Field_hearPulses_12 : decode Y_Field_hearPulses.2.1 12 = .ok (.if_icmp .ge (50), 3) := by decide +kernel
theorem d_Field_hearPulses_15 : decode Y_Field_hearPulses.2.1 15 = .ok (.aload_n 0, 1) := by decide +kernel
theorem d_Field_hearPulses_16 : decode Y_Field_hearPulses.2.1 16 = .ok (.getfield 35, 3) := by decide +kernel
theorem d_Field_hearPulses_19 : decode Y_Field_hearPulses.2.1 19 = .ok (.iload_n 2, 1) := by decide +kernel
theorem d_Field_hearPulses_20 : decode Y_Field_hearPulses.2.1 20 = .ok (.invokevirtual 151, 3) := by decide +kernel
theorem d_Field_hearPulses_23 : decode Y_Field_hearPulses.2.1 23 = .ok (.istore_n 3, 1) := by decide +kernel
theorem d_Field_hearPulses_24 : decode Y_Field_hearPulses.2.1 24 = .ok (.aload_n 0, 1) := by decide +kernel
theorem d_Field_hearPulses_25 : decode Y_Field_hearPulses.2.1 25 = .ok (.iload_n 3, 1) := by decide +kernel
theorem d_Field_hearPulses_26 : decode Y_Field_hearPulses.2.1 26 = .ok (.invokevirtual 154, 3) := by decide +kernel
theorem d_Field_hearPulses_29 : decode Y_Field_hearPulses.2.1 29 = .ok (.aload_n 0, 1) := by decide +kernel
theorem d_Field_hearPulses_30 : decode Y_Field_hearPulses.2.1 30 = .ok (.iload_n 3, 1) := by decide +kernel
theorem d_Field_hearPulses_31 : decode Y_Field_hearPulses.2.1 31 = .ok (.invokevirtual 157, 3) := by decide +kernel
theorem d_Field_hearPulses_34 : decode Y_Field_hearPulses.2.1 34 = .ok (.ifCond .ne (22), 3) := by decide +kernel
theorem d_Field_hearPulses_37 : decode Y_Field_hearPulses.2.1 37 = .ok (.aload_n 0, 1) := by decide +kernel
theorem d_Field_hearPulses_38 : decode Y_Field_hearPulses.2.1 38 = .ok (.getfield 35, 3) := by decide +kernel
theorem d_Field_hearPulses_41 : decode Y_Field_hearPulses.2.1 41 = .ok (.iload_n 3, 1) := by decide +kernel
theorem d_Field_hearPulses_42 : decode Y_Field_hearPulses.2.1 42 = .ok (.aload_n 0, 1) := by decide +kernel
theorem d_Field_hearPulses_43 : decode Y_Field_hearPulses.2.1 43 = .ok (.getfield 35, 3) := by decide +kernel
theorem d_Field_hearPulses_46 : decode Y_Field_hearPulses.2.1 46 = .ok (.iload_n 1, 1) := by decide +kernel
theorem d_Field_hearPulses_47 : decode Y_Field_hearPulses.2.1 47 = .ok (.invokevirtual 151, 3) := by decide +kernel
theorem d_Field_hearPulses_50 : decode Y_Field_hearPulses.2.1 50 = .ok (.invokevirtual 160, 3) := by decide +kernel
theorem d_Field_hearPulses_53 : decode Y_Field_hearPulses.2.1 53 = .ok (.iinc 1 (1), 3) := by decide +kernel
theorem d_Field_hearPulses_56 : decode Y_Field_hearPulses.2.1 56 = .ok (.iinc 2 (1), 3) := by decide +kernel
theorem d_Field_hearPulses_59 : decode Y_Field_hearPulses.2.1 59 = .ok (.goto (-55), 3) := by decide +kernel
theorem d_Field_hearPulses_62 : decode Y_Field_hearPulses.2.1 62 = .ok (.aload_n 0, 1) := by decide +kernel
theorem d_Field_hearPulses_63 : decode Y_Field_hearPulses.2.1 63 = .ok (.getfield 35, 3) := by decide +kernel
theorem d_Field_hearPulses_66 : decode Y_Field_hearPulses.2.1 66 = .ok (.iload_n 1, 1) := by decide +kernel
theorem d_Field_hearPulses_67 : decode Y_Field_hearPulses.2.1 67 = .ok (.putfield 150, 3) := by decide +kernel
theorem d_Field_hearPulses_70 : decode Y_Field_hearPulses.2.1 70 = .ok (.return_, 1) := by decide +kernel
def f_Field_hearPulses (w : zW) (D : zD) (a : Nat) : Option (zD) := zjp (zlp (fun (_ : Int32) (_ : Int32) (_ : zD) => none) (fun (j4 : Int32 → Int32 → zD → Option (zD)) (x1 : Int32) (x2 : Int32) (D1 : zD) => zref w 3 3 a (fun p2 => zfld w D1 5 7 p2 (fun v3 => (if v3 ≤ x2 then zref w 3 3 a (fun p4 => zput w D1 5 7 p4 x1 (fun D5 => some D5)) else zjp (fun (x1 : Int32) (x2 : Int32) (D6 : zD) => zlet (x2 + (1 : Int32)) (fun v7 => j4 x1 v7 D6)) (fun j56 => zref w 3 3 a (fun p8 => zobj w 5 p8 (zci (f_Pulses_rowOf w D1 p8 x2) (fun v9 D10 => zobj w 3 a (zcv (f_Field_hearPulse w D10 a v9) (fun D11 => zobj w 3 a (zci (f_Field_isGone w D11 a v9) (fun v12 D13 => (if v12 = 0 then zref w 3 3 a (fun p14 => zref w 3 3 a (fun p15 => zobj w 5 p15 (zci (f_Pulses_rowOf w D13 p15 x1) (fun v16 D17 => zobj w 5 p14 (zcv (f_Pulses_move w D17 p14 v9 v16) (fun D18 => zlet (x1 + (1 : Int32)) (fun v19 => j56 v19 x2 D18))))))) else j56 x1 x2 D13))))))))))))) zfuel) (fun j4 => j4 (0 : Int32) (0 : Int32) D)
set_option maxHeartbeats 4000000 in
set_option maxRecDepth 100000 in
theorem c_Field_hearPulses (z : zT) (D : zD) (a : Nat) : zM Y_Field_hearPulses 4 0 0 (zqV z) (f_Field_hearPulses z.2 D a) [.ref a] z D := by
  refine zM_of (plainFor_of_name (by decide +kernel)) rfl (Nat.le_of_ble_eq_true rfl) (fun _ _ _ _ h => nomatch h.1) (fun K => ?_)
  unfold f_Field_hearPulses
  refine z_jp (fun j4 : Int32 → Int32 → zD → Option (zD) => ∀ (x1 : Int32) (x2 : Int32) (D1 : zD), zGO K Y_Field_hearPulses 4 0 0 (zqV z) (j4 x1 x2 D1) 0 0 z D1 4 [(0, .ref a), (1, .int x1), (2, .int x2)] []) (z_lp (fun j4 : Int32 → Int32 → zD → Option (zD) => ∀ (x1 : Int32) (x2 : Int32) (D1 : zD), zGO K Y_Field_hearPulses 4 0 0 (zqV z) (j4 x1 x2 D1) 0 0 z D1 4 [(0, .ref a), (1, .int x1), (2, .int x2)] []) (fun _ _ _ => z_none) (fun j4 h4 x1 x2 D1 => ?_) zfuel) (fun j4 h4 => ?_)
  · refine z_iload_n (pc := 4) d_Field_hearPulses_4 rfl 2 rfl ?_
    refine z_aload_n (pc := 5) d_Field_hearPulses_5 rfl 0 rfl ?_
    refine z_getR (pc := 6) fl_Field_35 d_Field_hearPulses_6 (fun p2 => ?_)
    refine z_getI (pc := 9) fl_Field_150 d_Field_hearPulses_9 (fun v3 => ?_)
    refine z_icmp_ge (pc := 12) (tgt := 62) d_Field_hearPulses_12 (by decide) ?_ ?_
    · refine z_aload_n (pc := 62) d_Field_hearPulses_62 rfl 0 rfl ?_
      refine z_getR (pc := 63) fl_Field_35 d_Field_hearPulses_63 (fun p4 => ?_)
      refine z_iload_n (pc := 66) d_Field_hearPulses_66 rfl 1 rfl ?_
      refine z_putI (pc := 67) fl_Field_150 d_Field_hearPulses_67 (fun D5 => ?_)
      exact z_vret (pc := 70) d_Field_hearPulses_70 rfl
    · refine z_jp (fun j56 : Int32 → Int32 → zD → Option (zD) => ∀ (x1 : Int32) (x2 : Int32) (D6 : zD), zGO K Y_Field_hearPulses 4 0 0 (zqV z) (j56 x1 x2 D6) 0 0 z D6 56 [(0, .ref a), (1, .int x1), (2, .int x2)] []) (fun x1 x2 D6 => ?_) (fun j56 h56 => ?_)
      · refine z_iincL (pc := 56) d_Field_hearPulses_56 ki_1 2 rfl (by decide) (fun v7 => z_lvc (lv2 := [(2, .int v7), (0, .ref a), (1, .int x1)]) rfl ?_)
        refine z_goto (pc := 59) (tgt := 4) d_Field_hearPulses_59 (by decide) ?_
        exact z_sub [1, 2, 0] rfl (h4 x1 v7 D6)
      · refine z_aload_n (pc := 15) d_Field_hearPulses_15 rfl 0 rfl ?_
        refine z_getR (pc := 16) fl_Field_35 d_Field_hearPulses_16 (fun p8 => ?_)
        refine z_iload_n (pc := 19) d_Field_hearPulses_19 rfl 2 rfl ?_
        refine z_callVi (pc := 20) [.int x2] lkV_Field_151 rfl (c_Pulses_rowOf z D1 p8 x2) (by decide) rfl rfl (Nat.le_of_ble_eq_true rfl) d_Field_hearPulses_20 (fun v9 D10 => ?_)
        refine z_istore_n (pc := 23) d_Field_hearPulses_23 rfl (by decide) (lv' := [(3, .int v9), (0, .ref a), (1, .int x1), (2, .int x2)]) rfl ?_
        refine z_aload_n (pc := 24) d_Field_hearPulses_24 rfl 1 rfl ?_
        refine z_iload_n (pc := 25) d_Field_hearPulses_25 rfl 0 rfl ?_
        refine z_callVv (pc := 26) [.int v9] lkV_Field_154 rfl (c_Field_hearPulse z D10 a v9) (by decide) rfl rfl (Nat.le_of_ble_eq_true rfl) d_Field_hearPulses_26 (fun D11 => ?_)
        refine z_aload_n (pc := 29) d_Field_hearPulses_29 rfl 1 rfl ?_
        refine z_iload_n (pc := 30) d_Field_hearPulses_30 rfl 0 rfl ?_
        refine z_callVi (pc := 31) [.int v9] lkV_Field_157 rfl (c_Field_isGone z D11 a v9) (by decide) rfl rfl (Nat.le_of_ble_eq_true rfl) d_Field_hearPulses_31 (fun v12 D13 => ?_)
        refine z_if_ne (pc := 34) (tgt := 56) d_Field_hearPulses_34 (by decide) ?_ ?_
        · refine z_aload_n (pc := 37) d_Field_hearPulses_37 rfl 1 rfl ?_
          refine z_getR (pc := 38) fl_Field_35 d_Field_hearPulses_38 (fun p14 => ?_)
          refine z_iload_n (pc := 41) d_Field_hearPulses_41 rfl 0 rfl ?_
          refine z_aload_n (pc := 42) d_Field_hearPulses_42 rfl 1 rfl ?_
          refine z_getR (pc := 43) fl_Field_35 d_Field_hearPulses_43 (fun p15 => ?_)
          refine z_iload_n (pc := 46) d_Field_hearPulses_46 rfl 2 rfl ?_
          refine z_callVi (pc := 47) [.int x1] lkV_Field_151 rfl (c_Pulses_rowOf z D13 p15 x1) (by decide) rfl rfl (Nat.le_of_ble_eq_true rfl) d_Field_hearPulses_47 (fun v16 D17 => ?_)
          refine z_callVv (pc := 50) [.int v9, .int v16] lkV_Field_160 rfl (c_Pulses_move z D17 p14 v9 v16) (by decide) rfl rfl (Nat.le_of_ble_eq_true rfl) d_Field_hearPulses_50 (fun D18 => ?_)
          refine z_iincL (pc := 53) d_Field_hearPulses_53 ki_1 2 rfl (by decide) (fun v19 => z_lvc (lv2 := [(1, .int v19), (3, .int v9), (0, .ref a), (2, .int x2)]) rfl ?_)
          exact z_sub [2, 0, 3] rfl (h56 v19 x2 D18)
        · exact z_sub [1, 2, 3] rfl (h56 x1 x2 D13)
  · refine z_iconst (pc := 0) d_Field_hearPulses_0 ki_0 ?_
    refine z_istore_n (pc := 1) d_Field_hearPulses_1 rfl (by decide) (lv' := [(1, .int (0 : Int32)), (0, .ref a)]) rfl ?_
    refine z_iconst (pc := 2) d_Field_hearPulses_2 ki_0 ?_
    refine z_istore_n (pc := 3) d_Field_hearPulses_3 rfl (by decide) (lv' := [(2, .int (0 : Int32)), (1, .int (0 : Int32)), (0, .ref a)]) rfl ?_
    exact z_sub [2, 1, 0] rfl (h4 (0 : Int32) (0 : Int32) D)
theorem d_Field_tick_0 : decode Y_Field_tick.2.1 0 = .ok (.aload_n 0, 1) := by decide +kernel
theorem d_Field_tick_1 : decode Y_Field_tick.2.1 1 = .ok (.dup, 1) := by decide +kernel
theorem d_Field_tick_2 : decode Y_Field_tick.2.1 2 = .ok (.getfield 69, 3) := by decide +kernel
theorem d_Field_tick_5 : decode Y_Field_tick.2.1 5 = .ok (.iconst (1), 1) := by decide +kernel
theorem d_Field_tick_6 : decode Y_Field_tick.2.1 6 = .ok (.iadd, 1) := by decide +kernel
theorem d_Field_tick_7 : decode Y_Field_tick.2.1 7 = .ok (.putfield 69, 3) := by decide +kernel
theorem d_Field_tick_10 : decode Y_Field_tick.2.1 10 = .ok (.aload_n 0, 1) := by decide +kernel
theorem d_Field_tick_11 : decode Y_Field_tick.2.1 11 = .ok (.getfield 12, 3) := by decide +kernel
theorem d_Field_tick_14 : decode Y_Field_tick.2.1 14 = .ok (.invokevirtual 105, 3) := by decide +kernel
theorem d_Field_tick_17 : decode Y_Field_tick.2.1 17 = .ok (.aload_n 0, 1) := by decide +kernel
theorem d_Field_tick_18 : decode Y_Field_tick.2.1 18 = .ok (.getfield 21, 3) := by decide +kernel
theorem d_Field_tick_21 : decode Y_Field_tick.2.1 21 = .ok (.invokevirtual 108, 3) := by decide +kernel
theorem d_Field_tick_24 : decode Y_Field_tick.2.1 24 = .ok (.iconst (0), 1) := by decide +kernel
theorem d_Field_tick_25 : decode Y_Field_tick.2.1 25 = .ok (.istore_n 1, 1) := by decide +kernel
theorem d_Field_tick_26 : decode Y_Field_tick.2.1 26 = .ok (.iload_n 1, 1) := by decide +kernel
theorem d_Field_tick_27 : decode Y_Field_tick.2.1 27 = .ok (.aload_n 0, 1) := by decide +kernel
theorem d_Field_tick_28 : decode Y_Field_tick.2.1 28 = .ok (.getfield 12, 3) := by decide +kernel
theorem d_Field_tick_31 : decode Y_Field_tick.2.1 31 = .ok (.getfield 111, 3) := by decide +kernel
theorem d_Field_tick_34 : decode Y_Field_tick.2.1 34 = .ok (.if_icmp .ge (29), 3) := by decide +kernel
theorem d_Field_tick_37 : decode Y_Field_tick.2.1 37 = .ok (.aload_n 0, 1) := by decide +kernel
theorem d_Field_tick_38 : decode Y_Field_tick.2.1 38 = .ok (.getfield 12, 3) := by decide +kernel
theorem d_Field_tick_41 : decode Y_Field_tick.2.1 41 = .ok (.iload_n 1, 1) := by decide +kernel
theorem d_Field_tick_42 : decode Y_Field_tick.2.1 42 = .ok (.aload_n 0, 1) := by decide +kernel
theorem d_Field_tick_43 : decode Y_Field_tick.2.1 43 = .ok (.getfield 69, 3) := by decide +kernel
theorem d_Field_tick_46 : decode Y_Field_tick.2.1 46 = .ok (.invokevirtual 114, 3) := by decide +kernel
theorem d_Field_tick_49 : decode Y_Field_tick.2.1 49 = .ok (.ifCond .eq (8), 3) := by decide +kernel
theorem d_Field_tick_52 : decode Y_Field_tick.2.1 52 = .ok (.aload_n 0, 1) := by decide +kernel
theorem d_Field_tick_53 : decode Y_Field_tick.2.1 53 = .ok (.iload_n 1, 1) := by decide +kernel
theorem d_Field_tick_54 : decode Y_Field_tick.2.1 54 = .ok (.invokevirtual 117, 3) := by decide +kernel
theorem d_Field_tick_57 : decode Y_Field_tick.2.1 57 = .ok (.iinc 1 (1), 3) := by decide +kernel
theorem d_Field_tick_60 : decode Y_Field_tick.2.1 60 = .ok (.goto (-34), 3) := by decide +kernel
theorem d_Field_tick_63 : decode Y_Field_tick.2.1 63 = .ok (.aload_n 0, 1) := by decide +kernel
theorem d_Field_tick_64 : decode Y_Field_tick.2.1 64 = .ok (.invokevirtual 121, 3) := by decide +kernel
theorem d_Field_tick_67 : decode Y_Field_tick.2.1 67 = .ok (.aload_n 0, 1) := by decide +kernel
theorem d_Field_tick_68 : decode Y_Field_tick.2.1 68 = .ok (.getfield 21, 3) := by decide +kernel
theorem d_Field_tick_71 : decode Y_Field_tick.2.1 71 = .ok (.invokevirtual 124, 3) := by decide +kernel
theorem d_Field_tick_74 : decode Y_Field_tick.2.1 74 = .ok (.return_, 1) := by decide +kernel
def f_Field_tick (w : zW) (D : zD) (a : Nat) : Option (zD) := zjp (zlp (fun (_ : Int32) (_ : zD) => none) (fun (j26 : Int32 → zD → Option (zD)) (x1 : Int32) (D1 : zD) => zref w 3 0 a (fun p2 => zfld w D1 6 7 p2 (fun v3 => (if v3 ≤ x1 then zobj w 3 a (zcv (f_Field_hearPulses w D1 a ) (fun D4 => zref w 3 1 a (fun p5 => zobj w 4 p5 (zcv (f_Hearers_countBeats w D4 p5 ) (fun D6 => some D6))))) else zjp (fun (x1 : Int32) (D7 : zD) => zlet (x1 + (1 : Int32)) (fun v8 => j26 v8 D7)) (fun j57 => zref w 3 0 a (fun p9 => zfld w D1 3 5 a (fun v10 => zobj w 6 p9 (zci (f_Sirens_isDue w D1 p9 x1 v10) (fun v11 D12 => (if v11 = 0 then j57 x1 D12 else zobj w 3 a (zcv (f_Field_givePulses w D12 a x1) (fun D13 => j57 x1 D13)))))))))))) zfuel) (fun j26 => zfld w D 3 5 a (fun v14 => zput w D 3 5 a (v14 + (1 : Int32)) (fun D15 => zref w 3 0 a (fun p16 => zobj w 6 p16 (zcv (f_Sirens_goOn w D15 p16 ) (fun D17 => zref w 3 1 a (fun p18 => zobj w 4 p18 (zcv (f_Hearers_walkOn w D17 p18 ) (fun D19 => j26 (0 : Int32) D19)))))))))
set_option maxHeartbeats 4000000 in
set_option maxRecDepth 100000 in
theorem c_Field_tick (z : zT) (D : zD) (a : Nat) : zM Y_Field_tick 5 0 0 (zqV z) (f_Field_tick z.2 D a) [.ref a] z D := by
  refine zM_of (plainFor_of_name (by decide +kernel)) rfl (Nat.le_of_ble_eq_true rfl) (fun _ _ _ _ h => nomatch h.1) (fun K => ?_)
  unfold f_Field_tick
  refine z_jp (fun j26 : Int32 → zD → Option (zD) => ∀ (x1 : Int32) (D1 : zD), zGO K Y_Field_tick 5 0 0 (zqV z) (j26 x1 D1) 0 0 z D1 26 [(0, .ref a), (1, .int x1)] []) (z_lp (fun j26 : Int32 → zD → Option (zD) => ∀ (x1 : Int32) (D1 : zD), zGO K Y_Field_tick 5 0 0 (zqV z) (j26 x1 D1) 0 0 z D1 26 [(0, .ref a), (1, .int x1)] []) (fun _ _ => z_none) (fun j26 h26 x1 D1 => ?_) zfuel) (fun j26 h26 => ?_)
  · refine z_iload_n (pc := 26) d_Field_tick_26 rfl 1 rfl ?_
    refine z_aload_n (pc := 27) d_Field_tick_27 rfl 0 rfl ?_
    refine z_getR (pc := 28) fl_Field_12 d_Field_tick_28 (fun p2 => ?_)
    refine z_getI (pc := 31) fl_Field_111 d_Field_tick_31 (fun v3 => ?_)
    refine z_icmp_ge (pc := 34) (tgt := 63) d_Field_tick_34 (by decide) ?_ ?_
    · refine z_aload_n (pc := 63) d_Field_tick_63 rfl 0 rfl ?_
      refine z_callVv (pc := 64) [] lkV_Field_121 rfl (c_Field_hearPulses z D1 a ) (by decide) rfl rfl (Nat.le_of_ble_eq_true rfl) d_Field_tick_64 (fun D4 => ?_)
      refine z_aload_n (pc := 67) d_Field_tick_67 rfl 0 rfl ?_
      refine z_getR (pc := 68) fl_Field_21 d_Field_tick_68 (fun p5 => ?_)
      refine z_callVv (pc := 71) [] lkV_Field_124 rfl (c_Hearers_countBeats z D4 p5 ) (by decide) rfl rfl (Nat.le_of_ble_eq_true rfl) d_Field_tick_71 (fun D6 => ?_)
      exact z_vret (pc := 74) d_Field_tick_74 rfl
    · refine z_jp (fun j57 : Int32 → zD → Option (zD) => ∀ (x1 : Int32) (D7 : zD), zGO K Y_Field_tick 5 0 0 (zqV z) (j57 x1 D7) 0 0 z D7 57 [(0, .ref a), (1, .int x1)] []) (fun x1 D7 => ?_) (fun j57 h57 => ?_)
      · refine z_iincL (pc := 57) d_Field_tick_57 ki_1 1 rfl (by decide) (fun v8 => z_lvc (lv2 := [(1, .int v8), (0, .ref a)]) rfl ?_)
        refine z_goto (pc := 60) (tgt := 26) d_Field_tick_60 (by decide) ?_
        exact z_sub [1, 0] rfl (h26 v8 D7)
      · refine z_aload_n (pc := 37) d_Field_tick_37 rfl 0 rfl ?_
        refine z_getR (pc := 38) fl_Field_12 d_Field_tick_38 (fun p9 => ?_)
        refine z_iload_n (pc := 41) d_Field_tick_41 rfl 1 rfl ?_
        refine z_aload_n (pc := 42) d_Field_tick_42 rfl 0 rfl ?_
        refine z_getI (pc := 43) fl_Field_69 d_Field_tick_43 (fun v10 => ?_)
        refine z_callVi (pc := 46) [.int x1, .int v10] lkV_Field_114 rfl (c_Sirens_isDue z D1 p9 x1 v10) (by decide) rfl rfl (Nat.le_of_ble_eq_true rfl) d_Field_tick_46 (fun v11 D12 => ?_)
        refine z_if_eq (pc := 49) (tgt := 57) d_Field_tick_49 (by decide) ?_ ?_
        · exact z_sub [0, 1] rfl (h57 x1 D12)
        · refine z_aload_n (pc := 52) d_Field_tick_52 rfl 0 rfl ?_
          refine z_iload_n (pc := 53) d_Field_tick_53 rfl 1 rfl ?_
          refine z_callVv (pc := 54) [.int x1] lkV_Field_117 rfl (c_Field_givePulses z D12 a x1) (by decide) rfl rfl (Nat.le_of_ble_eq_true rfl) d_Field_tick_54 (fun D13 => ?_)
          exact z_sub [0, 1] rfl (h57 x1 D13)
  · refine z_aload_n (pc := 0) d_Field_tick_0 rfl 0 rfl ?_
    refine z_dup (pc := 1) d_Field_tick_1 rfl ?_
    refine z_getI (pc := 2) fl_Field_69 d_Field_tick_2 (fun v14 => ?_)
    refine z_iconst (pc := 5) d_Field_tick_5 ki_1 ?_
    refine z_iadd (pc := 6) d_Field_tick_6 ?_
    refine z_putI (pc := 7) fl_Field_69 d_Field_tick_7 (fun D15 => ?_)
    refine z_aload_n (pc := 10) d_Field_tick_10 rfl 0 rfl ?_
    refine z_getR (pc := 11) fl_Field_12 d_Field_tick_11 (fun p16 => ?_)
    refine z_callVv (pc := 14) [] lkV_Field_105 rfl (c_Sirens_goOn z D15 p16 ) (by decide) rfl rfl (Nat.le_of_ble_eq_true rfl) d_Field_tick_14 (fun D17 => ?_)
    refine z_aload_n (pc := 17) d_Field_tick_17 rfl 0 rfl ?_
    refine z_getR (pc := 18) fl_Field_21 d_Field_tick_18 (fun p18 => ?_)
    refine z_callVv (pc := 21) [] lkV_Field_108 rfl (c_Hearers_walkOn z D17 p18 ) (by decide) rfl rfl (Nat.le_of_ble_eq_true rfl) d_Field_tick_21 (fun D19 => ?_)
    refine z_iconst (pc := 24) d_Field_tick_24 ki_0 ?_
    refine z_istore_n (pc := 25) d_Field_tick_25 rfl (by decide) (lv' := [(1, .int (0 : Int32)), (0, .ref a)]) rfl ?_
    exact z_sub [1, 0] rfl (h26 (0 : Int32) D19)
theorem d_Field_pass_0 : decode Y_Field_pass.2.1 0 = .ok (.iconst (0), 1) := by decide +kernel
theorem d_Field_pass_1 : decode Y_Field_pass.2.1 1 = .ok (.istore_n 2, 1) := by decide +kernel
theorem d_Field_pass_2 : decode Y_Field_pass.2.1 2 = .ok (.iload_n 2, 1) := by decide +kernel
theorem d_Field_pass_3 : decode Y_Field_pass.2.1 3 = .ok (.iload_n 1, 1) := by decide +kernel
theorem d_Field_pass_4 : decode Y_Field_pass.2.1 4 = .ok (.if_icmp .ge (13), 3) := by decide +kernel
theorem d_Field_pass_7 : decode Y_Field_pass.2.1 7 = .ok (.aload_n 0, 1) := by decide +kernel
theorem d_Field_pass_8 : decode Y_Field_pass.2.1 8 = .ok (.invokevirtual 99, 3) := by decide +kernel
theorem d_Field_pass_11 : decode Y_Field_pass.2.1 11 = .ok (.iinc 2 (1), 3) := by decide +kernel
theorem d_Field_pass_14 : decode Y_Field_pass.2.1 14 = .ok (.goto (-12), 3) := by decide +kernel
theorem d_Field_pass_17 : decode Y_Field_pass.2.1 17 = .ok (.return_, 1) := by decide +kernel
def f_Field_pass (w : zW) (D : zD) (a : Nat) (x1 : Int32) : Option (zD) := zjp (zlp (fun (_ : Int32) (_ : zD) => none) (fun (j2 : Int32 → zD → Option (zD)) (x2 : Int32) (D1 : zD) => (if x1 ≤ x2 then some D1 else zobj w 3 a (zcv (f_Field_tick w D1 a ) (fun D2 => zlet (x2 + (1 : Int32)) (fun v3 => j2 v3 D2))))) zfuel) (fun j2 => j2 (0 : Int32) D)
set_option maxHeartbeats 4000000 in
set_option maxRecDepth 100000 in
theorem c_Field_pass (z : zT) (D : zD) (a : Nat) (x1 : Int32) : zM Y_Field_pass 6 0 0 (zqV z) (f_Field_pass z.2 D a x1) [.ref a, .int x1] z D := by
  refine zM_of (plainFor_of_name (by decide +kernel)) rfl (Nat.le_of_ble_eq_true rfl) (fun _ _ _ _ h => nomatch h.1) (fun K => ?_)
  unfold f_Field_pass
  refine z_jp (fun j2 : Int32 → zD → Option (zD) => ∀ (x2 : Int32) (D1 : zD), zGO K Y_Field_pass 6 0 0 (zqV z) (j2 x2 D1) 0 0 z D1 2 [(0, .ref a), (1, .int x1), (2, .int x2)] []) (z_lp (fun j2 : Int32 → zD → Option (zD) => ∀ (x2 : Int32) (D1 : zD), zGO K Y_Field_pass 6 0 0 (zqV z) (j2 x2 D1) 0 0 z D1 2 [(0, .ref a), (1, .int x1), (2, .int x2)] []) (fun _ _ => z_none) (fun j2 h2 x2 D1 => ?_) zfuel) (fun j2 h2 => ?_)
  · refine z_iload_n (pc := 2) d_Field_pass_2 rfl 2 rfl ?_
    refine z_iload_n (pc := 3) d_Field_pass_3 rfl 1 rfl ?_
    refine z_icmp_ge (pc := 4) (tgt := 17) d_Field_pass_4 (by decide) ?_ ?_
    · exact z_vret (pc := 17) d_Field_pass_17 rfl
    · refine z_aload_n (pc := 7) d_Field_pass_7 rfl 0 rfl ?_
      refine z_callVv (pc := 8) [] lkV_Field_99 rfl (c_Field_tick z D1 a ) (by decide) rfl rfl (Nat.le_of_ble_eq_true rfl) d_Field_pass_8 (fun D2 => ?_)
      refine z_iincL (pc := 11) d_Field_pass_11 ki_1 2 rfl (by decide) (fun v3 => z_lvc (lv2 := [(2, .int v3), (0, .ref a), (1, .int x1)]) rfl ?_)
      refine z_goto (pc := 14) (tgt := 2) d_Field_pass_14 (by decide) ?_
      exact z_sub [1, 2, 0] rfl (h2 v3 D2)
  · refine z_iconst (pc := 0) d_Field_pass_0 ki_0 ?_
    refine z_istore_n (pc := 1) d_Field_pass_1 rfl (by decide) (lv' := [(2, .int (0 : Int32)), (0, .ref a), (1, .int x1)]) rfl ?_
    exact z_sub [1, 2, 0] rfl (h2 (0 : Int32) D)
theorem d_Field_isLateWithin_0 : decode Y_Field_isLateWithin.2.1 0 = .ok (.aload_n 0, 1) := by decide +kernel
theorem d_Field_isLateWithin_1 : decode Y_Field_isLateWithin.2.1 1 = .ok (.getfield 42, 3) := by decide +kernel
theorem d_Field_isLateWithin_4 : decode Y_Field_isLateWithin.2.1 4 = .ok (.getfield 102, 3) := by decide +kernel
theorem d_Field_isLateWithin_7 : decode Y_Field_isLateWithin.2.1 7 = .ok (.istore_n 2, 1) := by decide +kernel
theorem d_Field_isLateWithin_8 : decode Y_Field_isLateWithin.2.1 8 = .ok (.iconst (0), 1) := by decide +kernel
theorem d_Field_isLateWithin_9 : decode Y_Field_isLateWithin.2.1 9 = .ok (.istore_n 3, 1) := by decide +kernel
theorem d_Field_isLateWithin_10 : decode Y_Field_isLateWithin.2.1 10 = .ok (.iload_n 3, 1) := by decide +kernel
theorem d_Field_isLateWithin_11 : decode Y_Field_isLateWithin.2.1 11 = .ok (.iload_n 1, 1) := by decide +kernel
theorem d_Field_isLateWithin_12 : decode Y_Field_isLateWithin.2.1 12 = .ok (.if_icmp .ge (24), 3) := by decide +kernel
theorem d_Field_isLateWithin_15 : decode Y_Field_isLateWithin.2.1 15 = .ok (.aload_n 0, 1) := by decide +kernel
theorem d_Field_isLateWithin_16 : decode Y_Field_isLateWithin.2.1 16 = .ok (.getfield 42, 3) := by decide +kernel
theorem d_Field_isLateWithin_19 : decode Y_Field_isLateWithin.2.1 19 = .ok (.getfield 102, 3) := by decide +kernel
theorem d_Field_isLateWithin_22 : decode Y_Field_isLateWithin.2.1 22 = .ok (.iload_n 2, 1) := by decide +kernel
theorem d_Field_isLateWithin_23 : decode Y_Field_isLateWithin.2.1 23 = .ok (.if_icmp .ne (13), 3) := by decide +kernel
theorem d_Field_isLateWithin_26 : decode Y_Field_isLateWithin.2.1 26 = .ok (.aload_n 0, 1) := by decide +kernel
theorem d_Field_isLateWithin_27 : decode Y_Field_isLateWithin.2.1 27 = .ok (.invokevirtual 99, 3) := by decide +kernel
theorem d_Field_isLateWithin_30 : decode Y_Field_isLateWithin.2.1 30 = .ok (.iinc 3 (1), 3) := by decide +kernel
theorem d_Field_isLateWithin_33 : decode Y_Field_isLateWithin.2.1 33 = .ok (.goto (-23), 3) := by decide +kernel
theorem d_Field_isLateWithin_36 : decode Y_Field_isLateWithin.2.1 36 = .ok (.aload_n 0, 1) := by decide +kernel
theorem d_Field_isLateWithin_37 : decode Y_Field_isLateWithin.2.1 37 = .ok (.getfield 42, 3) := by decide +kernel
theorem d_Field_isLateWithin_40 : decode Y_Field_isLateWithin.2.1 40 = .ok (.getfield 102, 3) := by decide +kernel
theorem d_Field_isLateWithin_43 : decode Y_Field_isLateWithin.2.1 43 = .ok (.iload_n 2, 1) := by decide +kernel
theorem d_Field_isLateWithin_44 : decode Y_Field_isLateWithin.2.1 44 = .ok (.if_icmp .le (7), 3) := by decide +kernel
theorem d_Field_isLateWithin_47 : decode Y_Field_isLateWithin.2.1 47 = .ok (.iconst (1), 1) := by decide +kernel
theorem d_Field_isLateWithin_48 : decode Y_Field_isLateWithin.2.1 48 = .ok (.goto (4), 3) := by decide +kernel
theorem d_Field_isLateWithin_51 : decode Y_Field_isLateWithin.2.1 51 = .ok (.iconst (0), 1) := by decide +kernel
theorem d_Field_isLateWithin_52 : decode Y_Field_isLateWithin.2.1 52 = .ok (.ireturn, 1) := by decide +kernel
def f_Field_isLateWithin (w : zW) (D : zD) (a : Nat) (x1 : Int32) : Option (Int32 × zD) := zjp (zlp (fun (_ : Int32) (_ : Int32) (_ : zD) => none) (fun (j10 : Int32 → Int32 → zD → Option (Int32 × zD)) (x2 : Int32) (x3 : Int32) (D1 : zD) => zjp (fun (x2 : Int32) (D2 : zD) => zjp (fun (s0 : Int32) (D3 : zD) => zchk (s0 = 0 ∨ s0 = 1) (some (s0, D3))) (fun j52 => zref w 3 4 a (fun p4 => zfld w D2 1 8 p4 (fun v5 => (if v5 ≤ x2 then j52 (0 : Int32) D2 else j52 (1 : Int32) D2))))) (fun j36 => (if x1 ≤ x3 then j36 x2 D1 else zref w 3 4 a (fun p6 => zfld w D1 1 8 p6 (fun v7 => (if v7 = x2 then zobj w 3 a (zcv (f_Field_tick w D1 a ) (fun D8 => zlet (x3 + (1 : Int32)) (fun v9 => j10 x2 v9 D8))) else j36 x2 D1)))))) zfuel) (fun j10 => zref w 3 4 a (fun p10 => zfld w D 1 8 p10 (fun v11 => j10 v11 (0 : Int32) D)))
set_option maxHeartbeats 4000000 in
set_option maxRecDepth 100000 in
theorem c_Field_isLateWithin (z : zT) (D : zD) (a : Nat) (x1 : Int32) : zM Y_Field_isLateWithin 6 0 0 (zqI z) (f_Field_isLateWithin z.2 D a x1) [.ref a, .int x1] z D := by
  refine zM_of (plainFor_of_name (by decide +kernel)) rfl (Nat.le_of_ble_eq_true rfl) (fun _ _ _ _ h => nomatch h.1) (fun K => ?_)
  unfold f_Field_isLateWithin
  refine z_jp (fun j10 : Int32 → Int32 → zD → Option (Int32 × zD) => ∀ (x2 : Int32) (x3 : Int32) (D1 : zD), zGO K Y_Field_isLateWithin 6 0 0 (zqI z) (j10 x2 x3 D1) 0 0 z D1 10 [(0, .ref a), (1, .int x1), (2, .int x2), (3, .int x3)] []) (z_lp (fun j10 : Int32 → Int32 → zD → Option (Int32 × zD) => ∀ (x2 : Int32) (x3 : Int32) (D1 : zD), zGO K Y_Field_isLateWithin 6 0 0 (zqI z) (j10 x2 x3 D1) 0 0 z D1 10 [(0, .ref a), (1, .int x1), (2, .int x2), (3, .int x3)] []) (fun _ _ _ => z_none) (fun j10 h10 x2 x3 D1 => ?_) zfuel) (fun j10 h10 => ?_)
  · refine z_jp (fun j36 : Int32 → zD → Option (Int32 × zD) => ∀ (x2 : Int32) (D2 : zD), zGO K Y_Field_isLateWithin 6 0 0 (zqI z) (j36 x2 D2) 0 0 z D2 36 [(0, .ref a), (2, .int x2)] []) (fun x2 D2 => ?_) (fun j36 h36 => ?_)
    · refine z_jp (fun j52 : Int32 → zD → Option (Int32 × zD) => ∀ (s0 : Int32) (D3 : zD), zGO K Y_Field_isLateWithin 6 0 0 (zqI z) (j52 s0 D3) 0 0 z D3 52 [] [.int s0]) (fun s0 D3 => ?_) (fun j52 h52 => ?_)
      · exact z_zret (pc := 52) d_Field_isLateWithin_52 rfl
      · refine z_aload_n (pc := 36) d_Field_isLateWithin_36 rfl 0 rfl ?_
        refine z_getR (pc := 37) fl_Field_42 d_Field_isLateWithin_37 (fun p4 => ?_)
        refine z_getI (pc := 40) fl_Field_102 d_Field_isLateWithin_40 (fun v5 => ?_)
        refine z_iload_n (pc := 43) d_Field_isLateWithin_43 rfl 1 rfl ?_
        refine z_icmp_le (pc := 44) (tgt := 51) d_Field_isLateWithin_44 (by decide) ?_ ?_
        · refine z_iconst (pc := 51) d_Field_isLateWithin_51 ki_0 ?_
          exact z_sub [] rfl (h52 (0 : Int32) D2)
        · refine z_iconst (pc := 47) d_Field_isLateWithin_47 ki_1 ?_
          refine z_goto (pc := 48) (tgt := 52) d_Field_isLateWithin_48 (by decide) ?_
          exact z_sub [] rfl (h52 (1 : Int32) D2)
    · refine z_iload_n (pc := 10) d_Field_isLateWithin_10 rfl 3 rfl ?_
      refine z_iload_n (pc := 11) d_Field_isLateWithin_11 rfl 1 rfl ?_
      refine z_icmp_ge (pc := 12) (tgt := 36) d_Field_isLateWithin_12 (by decide) ?_ ?_
      · exact z_sub [0, 2] rfl (h36 x2 D1)
      · refine z_aload_n (pc := 15) d_Field_isLateWithin_15 rfl 0 rfl ?_
        refine z_getR (pc := 16) fl_Field_42 d_Field_isLateWithin_16 (fun p6 => ?_)
        refine z_getI (pc := 19) fl_Field_102 d_Field_isLateWithin_19 (fun v7 => ?_)
        refine z_iload_n (pc := 22) d_Field_isLateWithin_22 rfl 2 rfl ?_
        refine z_icmp_ne (pc := 23) (tgt := 36) d_Field_isLateWithin_23 (by decide) ?_ ?_
        · refine z_aload_n (pc := 26) d_Field_isLateWithin_26 rfl 0 rfl ?_
          refine z_callVv (pc := 27) [] lkV_Field_99 rfl (c_Field_tick z D1 a ) (by decide) rfl rfl (Nat.le_of_ble_eq_true rfl) d_Field_isLateWithin_27 (fun D8 => ?_)
          refine z_iincL (pc := 30) d_Field_isLateWithin_30 ki_1 3 rfl (by decide) (fun v9 => z_lvc (lv2 := [(3, .int v9), (0, .ref a), (1, .int x1), (2, .int x2)]) rfl ?_)
          refine z_goto (pc := 33) (tgt := 10) d_Field_isLateWithin_33 (by decide) ?_
          exact z_sub [1, 2, 3, 0] rfl (h10 x2 v9 D8)
        · exact z_sub [0, 2] rfl (h36 x2 D1)
  · refine z_aload_n (pc := 0) d_Field_isLateWithin_0 rfl 0 rfl ?_
    refine z_getR (pc := 1) fl_Field_42 d_Field_isLateWithin_1 (fun p10 => ?_)
    refine z_getI (pc := 4) fl_Field_102 d_Field_isLateWithin_4 (fun v11 => ?_)
    refine z_istore_n (pc := 7) d_Field_isLateWithin_7 rfl (by decide) (lv' := [(2, .int v11), (0, .ref a), (1, .int x1)]) rfl ?_
    refine z_iconst (pc := 8) d_Field_isLateWithin_8 ki_0 ?_
    refine z_istore_n (pc := 9) d_Field_isLateWithin_9 rfl (by decide) (lv' := [(3, .int (0 : Int32)), (2, .int v11), (0, .ref a), (1, .int x1)]) rfl ?_
    exact z_sub [2, 3, 1, 0] rfl (h10 v11 (0 : Int32) D)
