theorem kb_33 : (Int8.ofInt (33)).toInt32 = (33 : Int32) := by decide +kernel
theorem kb_m2 : (Int8.ofInt (-2)).toInt32 = (-2 : Int32) := by decide +kernel
theorem kb_m3 : (Int8.ofInt (-3)).toInt32 = (-3 : Int32) := by decide +kernel
theorem kb_m30 : (Int8.ofInt (-30)).toInt32 = (-30 : Int32) := by decide +kernel
theorem ks_200 : (Int16.ofInt (200)).toInt32 = (200 : Int32) := by decide +kernel
theorem ks_255 : (Int16.ofInt (255)).toInt32 = (255 : Int32) := by decide +kernel
def Y_SF_append : zY := (⟨"SirenFair", "append", "(I)I"⟩, prog_1_method_2_code, 2, some .int, [])
theorem w_fl_SF_10 : Cond.fieldLink "SirenFair" 10 "SirenFair" "text" "LSirenFair$FairText;" ∈ zWd := zin 311 (by decide +kernel) rfl
theorem fl_SF_10 : zfl "SirenFair" 10 0 0 (.object "SirenFair$FairText") true := ⟨_, _, _, _, zc_SirenFair, by decide, w_fl_SF_10, rfl, rfl, rfl⟩
theorem w_fl_SF_51 : Cond.fieldLink "SirenFair" 51 "SirenFair$FairText" "length" "I" ∈ zWd := zin 50 (by decide +kernel) rfl
theorem fl_SF_51 : zfl "SirenFair" 51 2 1 (.int) false := ⟨_, _, _, _, zc_FairText, by decide, w_fl_SF_51, rfl, rfl, rfl⟩
theorem w_ml_SF_40 : Cond.methodLink "SirenFair" 40 Y_SF_isWithin.1 ∈ zWd := zin 348 (by decide +kernel) rfl
theorem lkS_SF_40 : zlkS "SirenFair" 40 Y_SF_isWithin 3 := ⟨lk_SF_isWithin, w_ml_SF_40, w_st_SF_isWithin⟩
theorem w_c_FairText_add : Cond.code Y_FairText_add.1 Y_FairText_add.2.1 Y_FairText_add.2.2.1 Y_FairText_add.2.2.2.1 ∈ zWd := zin 514 (by decide +kernel) rfl
theorem lk_FairText_add : zlk Y_FairText_add 1 := ⟨w_c_FairText_add, w_ini_FairText, by decide +kernel, by decide +kernel, by decide⟩
theorem w_ml_SF_60 : Cond.methodLink "SirenFair" 60 Y_FairText_add.1 ∈ zWd := zin 511 (by decide +kernel) rfl
theorem w_im_FairText_add : Cond.instanceMethod Y_FairText_add.1 ∈ zWd := zin 512 (by decide +kernel) rfl
theorem w_sel_FairText_add : Cond.selects "SirenFair$FairText" Y_FairText_add.1 Y_FairText_add.1 ∈ zWd := zin 513 (by decide +kernel) rfl
theorem lkV_SF_60 : zlkV "SirenFair" 60 Y_FairText_add 1 := ⟨lk_FairText_add, w_ml_SF_60, w_im_FairText_add, w_sel_FairText_add⟩
theorem tha_SF_59 : zthA "SirenFair" "java/lang/IllegalStateException" 59 ["java/lang/RuntimeException", "java/lang/Exception"] := ⟨by decide +kernel, by decide +kernel, by decide +kernel, by decide +kernel⟩
theorem w_cl_SF_55 : Cond.classLink "SirenFair" 55 "java/lang/IllegalStateException" ∈ zWd := zin 420 (by decide +kernel) rfl
theorem w_ini_IllegalStateException : Cond.initialized "java/lang/IllegalStateException" ∈ zWd := zin 29 (by decide +kernel) rfl
theorem th_SF_55_57_59 : zthr "SirenFair" "java/lang/IllegalStateException" "the text is full" 55 57 59 ["java/lang/RuntimeException", "java/lang/Exception"] := ⟨tha_SF_59, w_cl_SF_55, w_ini_IllegalStateException, List.mem_of_getElem? (i := 510) (by decide +kernel)⟩
theorem tha_SF_48 : zthA "SirenFair" "java/lang/IllegalArgumentException" 48 ["java/lang/RuntimeException", "java/lang/Exception"] := ⟨by decide +kernel, by decide +kernel, by decide +kernel, by decide +kernel⟩
theorem w_cl_SF_44 : Cond.classLink "SirenFair" 44 "java/lang/IllegalArgumentException" ∈ zWd := zin 351 (by decide +kernel) rfl
theorem w_ini_IllegalArgumentException : Cond.initialized "java/lang/IllegalArgumentException" ∈ zWd := zin 28 (by decide +kernel) rfl
theorem th_SF_44_46_48 : zthr "SirenFair" "java/lang/IllegalArgumentException" "c is not 0 to 255" 44 46 48 ["java/lang/RuntimeException", "java/lang/Exception"] := ⟨tha_SF_48, w_cl_SF_44, w_ini_IllegalArgumentException, List.mem_of_getElem? (i := 509) (by decide +kernel)⟩
def Y_SF_load : zY := (⟨"SirenFair", "load", "()I"⟩, prog_1_method_5_code, 3, some .int, [])
theorem w_fl_SF_23 : Cond.fieldLink "SirenFair" 23 "SirenFair" "blank" "LSirenFair$Field;" ∈ zWd := zin 313 (by decide +kernel) rfl
theorem fl_SF_23 : zfl "SirenFair" 23 0 2 (.object "SirenFair$Field") true := ⟨_, _, _, _, zc_SirenFair, by decide, w_fl_SF_23, rfl, rfl, rfl⟩
theorem w_fl_SF_36 : Cond.fieldLink "SirenFair" 36 "SirenFair" "isSaved" "[Z" ∈ zWd := zin 319 (by decide +kernel) rfl
theorem fl_SF_36 : zfl "SirenFair" 36 0 8 (.array (.boolean)) true := ⟨_, _, _, _, zc_SirenFair, by decide, w_fl_SF_36, rfl, rfl, rfl⟩
theorem w_fl_SF_80 : Cond.fieldLink "SirenFair" 80 "SirenFair$FairText" "at" "I" ∈ zWd := zin 52 (by decide +kernel) rfl
theorem fl_SF_80 : zfl "SirenFair" 80 2 2 (.int) false := ⟨_, _, _, _, zc_FairText, by decide, w_fl_SF_80, rfl, rfl, rfl⟩
theorem w_fl_SF_87 : Cond.fieldLink "SirenFair" 87 "SirenFair$FairText" "letter" "I" ∈ zWd := zin 54 (by decide +kernel) rfl
theorem fl_SF_87 : zfl "SirenFair" 87 2 3 (.int) false := ⟨_, _, _, _, zc_FairText, by decide, w_fl_SF_87, rfl, rfl, rfl⟩
theorem w_fl_SF_90 : Cond.fieldLink "SirenFair" 90 "SirenFair$FairText" "numbers" "[I" ∈ zWd := zin 56 (by decide +kernel) rfl
theorem fl_SF_90 : zfl "SirenFair" 90 2 4 (.array (.int)) true := ⟨_, _, _, _, zc_FairText, by decide, w_fl_SF_90, rfl, rfl, rfl⟩
theorem w_c_FairText_firstError : Cond.code Y_FairText_firstError.1 Y_FairText_firstError.2.1 Y_FairText_firstError.2.2.1 Y_FairText_firstError.2.2.2.1 ∈ zWd := zin 525 (by decide +kernel) rfl
theorem lk_FairText_firstError : zlk Y_FairText_firstError 0 := ⟨w_c_FairText_firstError, w_ini_FairText, by decide +kernel, by decide +kernel, by decide⟩
theorem w_ml_SF_64 : Cond.methodLink "SirenFair" 64 Y_FairText_firstError.1 ∈ zWd := zin 522 (by decide +kernel) rfl
theorem w_im_FairText_firstError : Cond.instanceMethod Y_FairText_firstError.1 ∈ zWd := zin 523 (by decide +kernel) rfl
theorem w_sel_FairText_firstError : Cond.selects "SirenFair$FairText" Y_FairText_firstError.1 Y_FairText_firstError.1 ∈ zWd := zin 524 (by decide +kernel) rfl
theorem lkV_SF_64 : zlkV "SirenFair" 64 Y_FairText_firstError 0 := ⟨lk_FairText_firstError, w_ml_SF_64, w_im_FairText_firstError, w_sel_FairText_firstError⟩
theorem w_ml_SF_83 : Cond.methodLink "SirenFair" 83 Y_FairText_readCommand.1 ∈ zWd := zin 564 (by decide +kernel) rfl
theorem lkV_SF_83 : zlkV "SirenFair" 83 Y_FairText_readCommand 0 := ⟨lk_FairText_readCommand, w_ml_SF_83, w_im_FairText_readCommand, w_sel_FairText_readCommand⟩
theorem w_c_SF_obeys : Cond.code Y_SF_obeys.1 Y_SF_obeys.2.1 Y_SF_obeys.2.2.1 Y_SF_obeys.2.2.2.1 ∈ zWd := zin 567 (by decide +kernel) rfl
theorem lk_SF_obeys : zlk Y_SF_obeys 3 := ⟨w_c_SF_obeys, w_ini_SF, by decide +kernel, by decide +kernel, by decide⟩
theorem w_ml_SF_94 : Cond.methodLink "SirenFair" 94 Y_SF_obeys.1 ∈ zWd := zin 565 (by decide +kernel) rfl
theorem w_st_SF_obeys : Cond.static Y_SF_obeys.1 ∈ zWd := zin 566 (by decide +kernel) rfl
theorem lkS_SF_94 : zlkS "SirenFair" 94 Y_SF_obeys 3 := ⟨lk_SF_obeys, w_ml_SF_94, w_st_SF_obeys⟩
theorem w_ml_SF_77 : Cond.methodLink "SirenFair" 77 Y_FairText_toFirstCommand.1 ∈ zWd := zin 563 (by decide +kernel) rfl
theorem lkV_SF_77 : zlkV "SirenFair" 77 Y_FairText_toFirstCommand 0 := ⟨lk_FairText_toFirstCommand, w_ml_SF_77, w_im_FairText_toFirstCommand, w_sel_FairText_toFirstCommand⟩
theorem w_c_SF_forgetRemembered : Cond.code Y_SF_forgetRemembered.1 Y_SF_forgetRemembered.2.1 Y_SF_forgetRemembered.2.2.1 Y_SF_forgetRemembered.2.2.2.1 ∈ zWd := zin 562 (by decide +kernel) rfl
theorem lk_SF_forgetRemembered : zlk Y_SF_forgetRemembered 0 := ⟨w_c_SF_forgetRemembered, w_ini_SF, by decide +kernel, by decide +kernel, by decide⟩
theorem w_ml_SF_74 : Cond.methodLink "SirenFair" 74 Y_SF_forgetRemembered.1 ∈ zWd := zin 559 (by decide +kernel) rfl
theorem w_im_SF_forgetRemembered : Cond.instanceMethod Y_SF_forgetRemembered.1 ∈ zWd := zin 561 (by decide +kernel) rfl
theorem w_sel_SF_forgetRemembered : Cond.selects "SirenFair" Y_SF_forgetRemembered.1 Y_SF_forgetRemembered.1 ∈ zWd := zin 8 (by decide +kernel) rfl
theorem lkV_SF_74 : zlkV "SirenFair" 74 Y_SF_forgetRemembered 0 := ⟨lk_SF_forgetRemembered, w_ml_SF_74, w_im_SF_forgetRemembered, w_sel_SF_forgetRemembered⟩
theorem th_SF_55_68_59 : zthr "SirenFair" "java/lang/IllegalStateException" "the text is not a fair" 55 68 59 ["java/lang/RuntimeException", "java/lang/Exception"] := ⟨tha_SF_59, w_cl_SF_55, w_ini_IllegalStateException, List.mem_of_getElem? (i := 558) (by decide +kernel)⟩
def Y_SF_about : zY := (⟨"SirenFair", "about", "(I)I"⟩, prog_1_method_7_code, 2, some .int, [])
theorem w_fl_SF_169 : Cond.fieldLink "SirenFair" 169 "SirenFair$Hearers" "allBeats" "I" ∈ zWd := zin 142 (by decide +kernel) rfl
theorem fl_SF_169 : zfl "SirenFair" 169 4 7 (.int) false := ⟨_, _, _, _, zc_Hearers, by decide, w_fl_SF_169, rfl, rfl, rfl⟩
theorem w_fl_SF_166 : Cond.fieldLink "SirenFair" 166 "SirenFair$Ears" "allLate" "I" ∈ zWd := zin 253 (by decide +kernel) rfl
theorem fl_SF_166 : zfl "SirenFair" 166 1 8 (.int) false := ⟨_, _, _, _, zc_Ears, by decide, w_fl_SF_166, rfl, rfl, rfl⟩
theorem w_fl_SF_163 : Cond.fieldLink "SirenFair" 163 "SirenFair$Ears" "allEchoes" "I" ∈ zWd := zin 251 (by decide +kernel) rfl
theorem fl_SF_163 : zfl "SirenFair" 163 1 7 (.int) false := ⟨_, _, _, _, zc_Ears, by decide, w_fl_SF_163, rfl, rfl, rfl⟩
theorem w_fl_SF_158 : Cond.fieldLink "SirenFair" 158 "SirenFair$Ears" "allDirect" "I" ∈ zWd := zin 249 (by decide +kernel) rfl
theorem fl_SF_158 : zfl "SirenFair" 158 1 6 (.int) false := ⟨_, _, _, _, zc_Ears, by decide, w_fl_SF_158, rfl, rfl, rfl⟩
theorem w_fl_SF_151 : Cond.fieldLink "SirenFair" 151 "SirenFair$Field" "given" "I" ∈ zWd := zin 287 (by decide +kernel) rfl
theorem fl_SF_151 : zfl "SirenFair" 151 3 6 (.int) false := ⟨_, _, _, _, zc_Field, by decide, w_fl_SF_151, rfl, rfl, rfl⟩
theorem w_fl_SF_141 : Cond.fieldLink "SirenFair" 141 "SirenFair$Field" "time" "I" ∈ zWd := zin 285 (by decide +kernel) rfl
theorem fl_SF_141 : zfl "SirenFair" 141 3 5 (.int) false := ⟨_, _, _, _, zc_Field, by decide, w_fl_SF_141, rfl, rfl, rfl⟩
theorem w_fl_SF_140 : Cond.fieldLink "SirenFair" 140 "SirenFair$Walls" "count" "I" ∈ zWd := zin 173 (by decide +kernel) rfl
theorem fl_SF_140 : zfl "SirenFair" 140 7 2 (.int) false := ⟨_, _, _, _, zc_Walls, by decide, w_fl_SF_140, rfl, rfl, rfl⟩
theorem w_fl_SF_139 : Cond.fieldLink "SirenFair" 139 "SirenFair$Hearers" "count" "I" ∈ zWd := zin 139 (by decide +kernel) rfl
theorem fl_SF_139 : zfl "SirenFair" 139 4 6 (.int) false := ⟨_, _, _, _, zc_Hearers, by decide, w_fl_SF_139, rfl, rfl, rfl⟩
theorem w_fl_SF_136 : Cond.fieldLink "SirenFair" 136 "SirenFair$Sirens" "count" "I" ∈ zWd := zin 98 (by decide +kernel) rfl
theorem fl_SF_136 : zfl "SirenFair" 136 6 7 (.int) false := ⟨_, _, _, _, zc_Sirens, by decide, w_fl_SF_136, rfl, rfl, rfl⟩
theorem th_SF_44_172_48 : zthr "SirenFair" "java/lang/IllegalArgumentException" "what is not 0 to 9" 44 172 48 ["java/lang/RuntimeException", "java/lang/Exception"] := ⟨tha_SF_48, w_cl_SF_44, w_ini_IllegalArgumentException, List.mem_of_getElem? (i := 693) (by decide +kernel)⟩
def Y_SF_sirenOf : zY := (⟨"SirenFair", "sirenOf", "(II)I"⟩, prog_1_method_8_code, 4, some .int, [])
theorem w_fl_SF_192 : Cond.fieldLink "SirenFair" 192 "SirenFair$Sirens" "speed" "[I" ∈ zWd := zin 89 (by decide +kernel) rfl
theorem fl_SF_192 : zfl "SirenFair" 192 6 3 (.array (.int)) true := ⟨_, _, _, _, zc_Sirens, by decide, w_fl_SF_192, rfl, rfl, rfl⟩
theorem w_fl_SF_198 : Cond.fieldLink "SirenFair" 198 "SirenFair$Sirens" "on" "[Z" ∈ zWd := zin 96 (by decide +kernel) rfl
theorem fl_SF_198 : zfl "SirenFair" 198 6 6 (.array (.boolean)) true := ⟨_, _, _, _, zc_Sirens, by decide, w_fl_SF_198, rfl, rfl, rfl⟩
theorem w_fl_SF_195 : Cond.fieldLink "SirenFair" 195 "SirenFair$Sirens" "period" "[I" ∈ zWd := zin 92 (by decide +kernel) rfl
theorem fl_SF_195 : zfl "SirenFair" 195 6 4 (.array (.int)) true := ⟨_, _, _, _, zc_Sirens, by decide, w_fl_SF_195, rfl, rfl, rfl⟩
theorem w_fl_SF_189 : Cond.fieldLink "SirenFair" 189 "SirenFair$Sirens" "r" "[I" ∈ zWd := zin 87 (by decide +kernel) rfl
theorem fl_SF_189 : zfl "SirenFair" 189 6 2 (.array (.int)) true := ⟨_, _, _, _, zc_Sirens, by decide, w_fl_SF_189, rfl, rfl, rfl⟩
theorem w_fl_SF_186 : Cond.fieldLink "SirenFair" 186 "SirenFair$Sirens" "y" "[I" ∈ zWd := zin 85 (by decide +kernel) rfl
theorem fl_SF_186 : zfl "SirenFair" 186 6 1 (.array (.int)) true := ⟨_, _, _, _, zc_Sirens, by decide, w_fl_SF_186, rfl, rfl, rfl⟩
theorem w_fl_SF_183 : Cond.fieldLink "SirenFair" 183 "SirenFair$Sirens" "x" "[I" ∈ zWd := zin 83 (by decide +kernel) rfl
theorem fl_SF_183 : zfl "SirenFair" 183 6 0 (.array (.int)) true := ⟨_, _, _, _, zc_Sirens, by decide, w_fl_SF_183, rfl, rfl, rfl⟩
theorem w_ml_SF_204 : Cond.methodLink "SirenFair" 204 Y_Sirens_placeX.1 ∈ zWd := zin 719 (by decide +kernel) rfl
theorem lkV_SF_204 : zlkV "SirenFair" 204 Y_Sirens_placeX 1 := ⟨lk_Sirens_placeX, w_ml_SF_204, w_im_Sirens_placeX, w_sel_Sirens_placeX⟩
theorem w_ml_SF_208 : Cond.methodLink "SirenFair" 208 Y_Sirens_placeY.1 ∈ zWd := zin 720 (by decide +kernel) rfl
theorem lkV_SF_208 : zlkV "SirenFair" 208 Y_Sirens_placeY 1 := ⟨lk_Sirens_placeY, w_ml_SF_208, w_im_Sirens_placeY, w_sel_Sirens_placeY⟩
theorem w_ml_SF_211 : Cond.methodLink "SirenFair" 211 Y_Math_abs.1 ∈ zWd := zin 721 (by decide +kernel) rfl
theorem lkS_SF_211 : zlkS "SirenFair" 211 Y_Math_abs 1 := ⟨lk_Math_abs, w_ml_SF_211, w_st_Math_abs⟩
theorem tha_SF_182 : zthA "SirenFair" "java/lang/IndexOutOfBoundsException" 182 ["java/lang/RuntimeException", "java/lang/Exception"] := ⟨by decide +kernel, by decide +kernel, by decide +kernel, by decide +kernel⟩
theorem w_cl_SF_178 : Cond.classLink "SirenFair" 178 "java/lang/IndexOutOfBoundsException" ∈ zWd := zin 703 (by decide +kernel) rfl
theorem w_ini_IndexOutOfBoundsException : Cond.initialized "java/lang/IndexOutOfBoundsException" ∈ zWd := zin 33 (by decide +kernel) rfl
theorem th_SF_178_180_182 : zthr "SirenFair" "java/lang/IndexOutOfBoundsException" "no such siren" 178 180 182 ["java/lang/RuntimeException", "java/lang/Exception"] := ⟨tha_SF_182, w_cl_SF_178, w_ini_IndexOutOfBoundsException, List.mem_of_getElem? (i := 712) (by decide +kernel)⟩
def Y_SF_hearerOf : zY := (⟨"SirenFair", "hearerOf", "(II)I"⟩, prog_1_method_9_code, 4, some .int, [])
theorem w_fl_SF_219 : Cond.fieldLink "SirenFair" 219 "SirenFair$Hearers" "x" "[I" ∈ zWd := zin 125 (by decide +kernel) rfl
theorem fl_SF_219 : zfl "SirenFair" 219 4 0 (.array (.int)) true := ⟨_, _, _, _, zc_Hearers, by decide, w_fl_SF_219, rfl, rfl, rfl⟩
theorem w_fl_SF_220 : Cond.fieldLink "SirenFair" 220 "SirenFair$Hearers" "y" "[I" ∈ zWd := zin 128 (by decide +kernel) rfl
theorem fl_SF_220 : zfl "SirenFair" 220 4 1 (.array (.int)) true := ⟨_, _, _, _, zc_Hearers, by decide, w_fl_SF_220, rfl, rfl, rfl⟩
theorem w_fl_SF_224 : Cond.fieldLink "SirenFair" 224 "SirenFair$Hearers" "vy" "[I" ∈ zWd := zin 133 (by decide +kernel) rfl
theorem fl_SF_224 : zfl "SirenFair" 224 4 3 (.array (.int)) true := ⟨_, _, _, _, zc_Hearers, by decide, w_fl_SF_224, rfl, rfl, rfl⟩
theorem w_fl_SF_221 : Cond.fieldLink "SirenFair" 221 "SirenFair$Hearers" "vx" "[I" ∈ zWd := zin 131 (by decide +kernel) rfl
theorem fl_SF_221 : zfl "SirenFair" 221 4 2 (.array (.int)) true := ⟨_, _, _, _, zc_Hearers, by decide, w_fl_SF_221, rfl, rfl, rfl⟩
theorem w_c_Sirens_nearestTo : Cond.code Y_Sirens_nearestTo.1 Y_Sirens_nearestTo.2.1 Y_Sirens_nearestTo.2.2.1 Y_Sirens_nearestTo.2.2.2.1 ∈ zWd := zin 738 (by decide +kernel) rfl
theorem lk_Sirens_nearestTo : zlk Y_Sirens_nearestTo 2 := ⟨w_c_Sirens_nearestTo, w_ini_Sirens, by decide +kernel, by decide +kernel, by decide⟩
theorem w_ml_SF_230 : Cond.methodLink "SirenFair" 230 Y_Sirens_nearestTo.1 ∈ zWd := zin 735 (by decide +kernel) rfl
theorem w_im_Sirens_nearestTo : Cond.instanceMethod Y_Sirens_nearestTo.1 ∈ zWd := zin 736 (by decide +kernel) rfl
theorem w_sel_Sirens_nearestTo : Cond.selects "SirenFair$Sirens" Y_Sirens_nearestTo.1 Y_Sirens_nearestTo.1 ∈ zWd := zin 737 (by decide +kernel) rfl
theorem lkV_SF_230 : zlkV "SirenFair" 230 Y_Sirens_nearestTo 2 := ⟨lk_Sirens_nearestTo, w_ml_SF_230, w_im_Sirens_nearestTo, w_sel_Sirens_nearestTo⟩
theorem th_SF_44_234_48 : zthr "SirenFair" "java/lang/IllegalArgumentException" "what is not 0 to 5" 44 234 48 ["java/lang/RuntimeException", "java/lang/Exception"] := ⟨tha_SF_48, w_cl_SF_44, w_ini_IllegalArgumentException, List.mem_of_getElem? (i := 742) (by decide +kernel)⟩
theorem th_SF_178_217_182 : zthr "SirenFair" "java/lang/IndexOutOfBoundsException" "no such hearer" 178 217 182 ["java/lang/RuntimeException", "java/lang/Exception"] := ⟨tha_SF_182, w_cl_SF_178, w_ini_IndexOutOfBoundsException, List.mem_of_getElem? (i := 734) (by decide +kernel)⟩
def Y_SF_wallOf : zY := (⟨"SirenFair", "wallOf", "(II)I"⟩, prog_1_method_10_code, 4, some .int, [])
theorem w_fl_SF_242 : Cond.fieldLink "SirenFair" 242 "SirenFair$Walls" "at" "[I" ∈ zWd := zin 171 (by decide +kernel) rfl
theorem fl_SF_242 : zfl "SirenFair" 242 7 1 (.array (.int)) true := ⟨_, _, _, _, zc_Walls, by decide, w_fl_SF_242, rfl, rfl, rfl⟩
theorem w_fl_SF_239 : Cond.fieldLink "SirenFair" 239 "SirenFair$Walls" "upright" "[Z" ∈ zWd := zin 167 (by decide +kernel) rfl
theorem fl_SF_239 : zfl "SirenFair" 239 7 0 (.array (.boolean)) true := ⟨_, _, _, _, zc_Walls, by decide, w_fl_SF_239, rfl, rfl, rfl⟩
theorem w_c_Walls_has : Cond.code Y_Walls_has.1 Y_Walls_has.2.1 Y_Walls_has.2.2.1 Y_Walls_has.2.2.2.1 ∈ zWd := zin 753 (by decide +kernel) rfl
theorem lk_Walls_has : zlk Y_Walls_has 1 := ⟨w_c_Walls_has, w_ini_Walls, by decide +kernel, by decide +kernel, by decide⟩
theorem w_ml_SF_236 : Cond.methodLink "SirenFair" 236 Y_Walls_has.1 ∈ zWd := zin 750 (by decide +kernel) rfl
theorem w_im_Walls_has : Cond.instanceMethod Y_Walls_has.1 ∈ zWd := zin 751 (by decide +kernel) rfl
theorem w_sel_Walls_has : Cond.selects "SirenFair$Walls" Y_Walls_has.1 Y_Walls_has.1 ∈ zWd := zin 752 (by decide +kernel) rfl
theorem lkV_SF_236 : zlkV "SirenFair" 236 Y_Walls_has 1 := ⟨lk_Walls_has, w_ml_SF_236, w_im_Walls_has, w_sel_Walls_has⟩
theorem th_SF_44_244_48 : zthr "SirenFair" "java/lang/IllegalArgumentException" "what is neither 0 nor 1" 44 244 48 ["java/lang/RuntimeException", "java/lang/Exception"] := ⟨tha_SF_48, w_cl_SF_44, w_ini_IllegalArgumentException, List.mem_of_getElem? (i := 755) (by decide +kernel)⟩
theorem th_SF_178_237_182 : zthr "SirenFair" "java/lang/IndexOutOfBoundsException" "no such wall" 178 237 182 ["java/lang/RuntimeException", "java/lang/Exception"] := ⟨tha_SF_182, w_cl_SF_178, w_ini_IndexOutOfBoundsException, List.mem_of_getElem? (i := 754) (by decide +kernel)⟩
def Y_SF_pulse : zY := (⟨"SirenFair", "pulse", "(II)I"⟩, prog_1_method_11_code, 5, some .int, [])
theorem w_fl_SF_262 : Cond.fieldLink "SirenFair" 262 "SirenFair$Pulses" "heardBy" "[I" ∈ zWd := zin 204 (by decide +kernel) rfl
theorem fl_SF_262 : zfl "SirenFair" 262 5 5 (.array (.int)) true := ⟨_, _, _, _, zc_Pulses, by decide, w_fl_SF_262, rfl, rfl, rfl⟩
theorem w_fl_SF_259 : Cond.fieldLink "SirenFair" 259 "SirenFair$Pulses" "wall" "[I" ∈ zWd := zin 201 (by decide +kernel) rfl
theorem fl_SF_259 : zfl "SirenFair" 259 5 4 (.array (.int)) true := ⟨_, _, _, _, zc_Pulses, by decide, w_fl_SF_259, rfl, rfl, rfl⟩
theorem w_fl_SF_256 : Cond.fieldLink "SirenFair" 256 "SirenFair$Pulses" "tick" "[I" ∈ zWd := zin 198 (by decide +kernel) rfl
theorem fl_SF_256 : zfl "SirenFair" 256 5 3 (.array (.int)) true := ⟨_, _, _, _, zc_Pulses, by decide, w_fl_SF_256, rfl, rfl, rfl⟩
theorem w_fl_SF_255 : Cond.fieldLink "SirenFair" 255 "SirenFair$Pulses" "y" "[I" ∈ zWd := zin 195 (by decide +kernel) rfl
theorem fl_SF_255 : zfl "SirenFair" 255 5 2 (.array (.int)) true := ⟨_, _, _, _, zc_Pulses, by decide, w_fl_SF_255, rfl, rfl, rfl⟩
theorem w_fl_SF_254 : Cond.fieldLink "SirenFair" 254 "SirenFair$Pulses" "x" "[I" ∈ zWd := zin 192 (by decide +kernel) rfl
theorem fl_SF_254 : zfl "SirenFair" 254 5 1 (.array (.int)) true := ⟨_, _, _, _, zc_Pulses, by decide, w_fl_SF_254, rfl, rfl, rfl⟩
theorem w_fl_SF_251 : Cond.fieldLink "SirenFair" 251 "SirenFair$Pulses" "siren" "[I" ∈ zWd := zin 189 (by decide +kernel) rfl
theorem fl_SF_251 : zfl "SirenFair" 251 5 0 (.array (.int)) true := ⟨_, _, _, _, zc_Pulses, by decide, w_fl_SF_251, rfl, rfl, rfl⟩
theorem th_SF_178_246_182 : zthr "SirenFair" "java/lang/IndexOutOfBoundsException" "no such pulse" 178 246 182 ["java/lang/RuntimeException", "java/lang/Exception"] := ⟨tha_SF_182, w_cl_SF_178, w_ini_IndexOutOfBoundsException, List.mem_of_getElem? (i := 763) (by decide +kernel)⟩
theorem w_ml_SF_248 : Cond.methodLink "SirenFair" 248 Y_Pulses_rowOf.1 ∈ zWd := zin 764 (by decide +kernel) rfl
theorem lkV_SF_248 : zlkV "SirenFair" 248 Y_Pulses_rowOf 1 := ⟨lk_Pulses_rowOf, w_ml_SF_248, w_im_Pulses_rowOf, w_sel_Pulses_rowOf⟩
def Y_SF_heard : zY := (⟨"SirenFair", "heard", "(III)I"⟩, prog_1_method_12_code, 5, some .int, [])
theorem w_fl_SF_286 : Cond.fieldLink "SirenFair" 286 "SirenFair$Ears" "pause" "[I" ∈ zWd := zin 246 (by decide +kernel) rfl
theorem fl_SF_286 : zfl "SirenFair" 286 1 4 (.array (.int)) true := ⟨_, _, _, _, zc_Ears, by decide, w_fl_SF_286, rfl, rfl, rfl⟩
theorem w_fl_SF_283 : Cond.fieldLink "SirenFair" 283 "SirenFair$Ears" "latestTick" "[I" ∈ zWd := zin 243 (by decide +kernel) rfl
theorem fl_SF_283 : zfl "SirenFair" 283 1 3 (.array (.int)) true := ⟨_, _, _, _, zc_Ears, by decide, w_fl_SF_283, rfl, rfl, rfl⟩
theorem w_fl_SF_280 : Cond.fieldLink "SirenFair" 280 "SirenFair$Ears" "late" "[I" ∈ zWd := zin 241 (by decide +kernel) rfl
theorem fl_SF_280 : zfl "SirenFair" 280 1 2 (.array (.int)) true := ⟨_, _, _, _, zc_Ears, by decide, w_fl_SF_280, rfl, rfl, rfl⟩
theorem w_fl_SF_277 : Cond.fieldLink "SirenFair" 277 "SirenFair$Ears" "echoes" "[I" ∈ zWd := zin 239 (by decide +kernel) rfl
theorem fl_SF_277 : zfl "SirenFair" 277 1 1 (.array (.int)) true := ⟨_, _, _, _, zc_Ears, by decide, w_fl_SF_277, rfl, rfl, rfl⟩
theorem th_SF_178_269_182 : zthr "SirenFair" "java/lang/IndexOutOfBoundsException" "no such hearer or siren" 178 269 182 ["java/lang/RuntimeException", "java/lang/Exception"] := ⟨tha_SF_182, w_cl_SF_178, w_ini_IndexOutOfBoundsException, List.mem_of_getElem? (i := 778) (by decide +kernel)⟩
def Y_SF_siren : zY := (⟨"SirenFair", "siren", "(IIIII)I"⟩, prog_1_method_13_code, 6, some .int, [])
theorem th_SF_44_292_48 : zthr "SirenFair" "java/lang/IllegalArgumentException" "the centre is out of its range" 44 292 48 ["java/lang/RuntimeException", "java/lang/Exception"] := ⟨tha_SF_48, w_cl_SF_44, w_ini_IllegalArgumentException, List.mem_of_getElem? (i := 392) (by decide +kernel)⟩
theorem th_SF_44_294_48 : zthr "SirenFair" "java/lang/IllegalArgumentException" "r, speed or period is out of its range" 44 294 48 ["java/lang/RuntimeException", "java/lang/Exception"] := ⟨tha_SF_48, w_cl_SF_44, w_ini_IllegalArgumentException, List.mem_of_getElem? (i := 419) (by decide +kernel)⟩
theorem w_c_SF_remember : Cond.code Y_SF_remember.1 Y_SF_remember.2.1 Y_SF_remember.2.2.1 Y_SF_remember.2.2.2.1 ∈ zWd := zin 439 (by decide +kernel) rfl
theorem lk_SF_remember : zlk Y_SF_remember 0 := ⟨w_c_SF_remember, w_ini_SF, by decide +kernel, by decide +kernel, by decide⟩
theorem w_ml_SF_298 : Cond.methodLink "SirenFair" 298 Y_SF_remember.1 ∈ zWd := zin 436 (by decide +kernel) rfl
theorem w_im_SF_remember : Cond.instanceMethod Y_SF_remember.1 ∈ zWd := zin 438 (by decide +kernel) rfl
theorem w_sel_SF_remember : Cond.selects "SirenFair" Y_SF_remember.1 Y_SF_remember.1 ∈ zWd := zin 1 (by decide +kernel) rfl
theorem lkV_SF_298 : zlkV "SirenFair" 298 Y_SF_remember 0 := ⟨lk_SF_remember, w_ml_SF_298, w_im_SF_remember, w_sel_SF_remember⟩
theorem th_SF_55_296_59 : zthr "SirenFair" "java/lang/IllegalStateException" "there are 4 sirens" 55 296 59 ["java/lang/RuntimeException", "java/lang/Exception"] := ⟨tha_SF_59, w_cl_SF_55, w_ini_IllegalStateException, List.mem_of_getElem? (i := 429) (by decide +kernel)⟩
def Y_SF_hearer : zY := (⟨"SirenFair", "hearer", "(IIII)I"⟩, prog_1_method_14_code, 5, some .int, [])
theorem th_SF_44_301_48 : zthr "SirenFair" "java/lang/IllegalArgumentException" "the place is out of its range" 44 301 48 ["java/lang/RuntimeException", "java/lang/Exception"] := ⟨tha_SF_48, w_cl_SF_44, w_ini_IllegalArgumentException, List.mem_of_getElem? (i := 484) (by decide +kernel)⟩
theorem th_SF_44_303_48 : zthr "SirenFair" "java/lang/IllegalArgumentException" "vx or vy is out of its range" 44 303 48 ["java/lang/RuntimeException", "java/lang/Exception"] := ⟨tha_SF_48, w_cl_SF_44, w_ini_IllegalArgumentException, List.mem_of_getElem? (i := 485) (by decide +kernel)⟩
theorem th_SF_55_305_59 : zthr "SirenFair" "java/lang/IllegalStateException" "there are 4 hearers" 55 305 59 ["java/lang/RuntimeException", "java/lang/Exception"] := ⟨tha_SF_59, w_cl_SF_55, w_ini_IllegalStateException, List.mem_of_getElem? (i := 486) (by decide +kernel)⟩
def Y_SF_wall : zY := (⟨"SirenFair", "wall", "(ZI)I"⟩, prog_1_method_15_code, 3, some .int, [])
theorem th_SF_55_309_59 : zthr "SirenFair" "java/lang/IllegalStateException" "there are 3 walls" 55 309 59 ["java/lang/RuntimeException", "java/lang/Exception"] := ⟨tha_SF_59, w_cl_SF_55, w_ini_IllegalStateException, List.mem_of_getElem? (i := 891) (by decide +kernel)⟩
theorem th_SF_44_307_48 : zthr "SirenFair" "java/lang/IllegalArgumentException" "at is out of its range" 44 307 48 ["java/lang/RuntimeException", "java/lang/Exception"] := ⟨tha_SF_48, w_cl_SF_44, w_ini_IllegalArgumentException, List.mem_of_getElem? (i := 890) (by decide +kernel)⟩
def Y_SF_turn : zY := (⟨"SirenFair", "turn", "(IZ)I"⟩, prog_1_method_16_code, 3, some .int, [])
theorem w_c_Sirens_howManyOn : Cond.code Y_Sirens_howManyOn.1 Y_Sirens_howManyOn.2.1 Y_Sirens_howManyOn.2.2.1 Y_Sirens_howManyOn.2.2.2.1 ∈ zWd := zin 902 (by decide +kernel) rfl
theorem lk_Sirens_howManyOn : zlk Y_Sirens_howManyOn 0 := ⟨w_c_Sirens_howManyOn, w_ini_Sirens, by decide +kernel, by decide +kernel, by decide⟩
theorem w_ml_SF_311 : Cond.methodLink "SirenFair" 311 Y_Sirens_howManyOn.1 ∈ zWd := zin 899 (by decide +kernel) rfl
theorem w_im_Sirens_howManyOn : Cond.instanceMethod Y_Sirens_howManyOn.1 ∈ zWd := zin 900 (by decide +kernel) rfl
theorem w_sel_Sirens_howManyOn : Cond.selects "SirenFair$Sirens" Y_Sirens_howManyOn.1 Y_Sirens_howManyOn.1 ∈ zWd := zin 901 (by decide +kernel) rfl
theorem lkV_SF_311 : zlkV "SirenFair" 311 Y_Sirens_howManyOn 0 := ⟨lk_Sirens_howManyOn, w_ml_SF_311, w_im_Sirens_howManyOn, w_sel_Sirens_howManyOn⟩
def Y_SF_walk : zY := (⟨"SirenFair", "walk", "(III)I"⟩, prog_1_method_17_code, 4, some .int, [])
def Y_SF_ticks : zY := (⟨"SirenFair", "ticks", "(I)I"⟩, prog_1_method_18_code, 3, some .int, [])
theorem th_SF_44_317_48 : zthr "SirenFair" "java/lang/IllegalArgumentException" "n is not 1 to 99" 44 317 48 ["java/lang/RuntimeException", "java/lang/Exception"] := ⟨tha_SF_48, w_cl_SF_44, w_ini_IllegalArgumentException, List.mem_of_getElem? (i := 804) (by decide +kernel)⟩
def Y_SF_set : zY := (⟨"SirenFair", "set", "(II)I"⟩, prog_1_method_19_code, 3, some .int, [])
theorem th_SF_44_322_48 : zthr "SirenFair" "java/lang/IllegalArgumentException" "what or v is out of its range" 44 322 48 ["java/lang/RuntimeException", "java/lang/Exception"] := ⟨tha_SF_48, w_cl_SF_44, w_ini_IllegalArgumentException, List.mem_of_getElem? (i := 816) (by decide +kernel)⟩
def Y_SF_undo : zY := (⟨"SirenFair", "undo", "()I"⟩, prog_1_method_20_code, 1, some .int, [])
theorem th_SF_55_330_59 : zthr "SirenFair" "java/lang/IllegalStateException" "no state is remembered" 55 330 59 ["java/lang/RuntimeException", "java/lang/Exception"] := ⟨tha_SF_59, w_cl_SF_55, w_ini_IllegalStateException, List.mem_of_getElem? (i := 828) (by decide +kernel)⟩
def Y_SF_sirenIn : zY := (⟨"SirenFair", "sirenIn", "(III)I"⟩, prog_1_method_23_code, 4, some .int, [])
theorem th_SF_44_335_48 : zthr "SirenFair" "java/lang/IllegalArgumentException" "n or way is out of its range" 44 335 48 ["java/lang/RuntimeException", "java/lang/Exception"] := ⟨tha_SF_48, w_cl_SF_44, w_ini_IllegalArgumentException, List.mem_of_getElem? (i := 836) (by decide +kernel)⟩
theorem w_c_Sirens_placeAtOnce : Cond.code Y_Sirens_placeAtOnce.1 Y_Sirens_placeAtOnce.2.1 Y_Sirens_placeAtOnce.2.2.1 Y_Sirens_placeAtOnce.2.2.2.1 ∈ zWd := zin 844 (by decide +kernel) rfl
theorem lk_Sirens_placeAtOnce : zlk Y_Sirens_placeAtOnce 2 := ⟨w_c_Sirens_placeAtOnce, w_ini_Sirens, by decide +kernel, by decide +kernel, by decide⟩
theorem w_ml_SF_340 : Cond.methodLink "SirenFair" 340 Y_Sirens_placeAtOnce.1 ∈ zWd := zin 841 (by decide +kernel) rfl
theorem w_im_Sirens_placeAtOnce : Cond.instanceMethod Y_Sirens_placeAtOnce.1 ∈ zWd := zin 842 (by decide +kernel) rfl
theorem w_sel_Sirens_placeAtOnce : Cond.selects "SirenFair$Sirens" Y_Sirens_placeAtOnce.1 Y_Sirens_placeAtOnce.1 ∈ zWd := zin 843 (by decide +kernel) rfl
theorem lkV_SF_340 : zlkV "SirenFair" 340 Y_Sirens_placeAtOnce 2 := ⟨lk_Sirens_placeAtOnce, w_ml_SF_340, w_im_Sirens_placeAtOnce, w_sel_Sirens_placeAtOnce⟩
theorem w_c_Sirens_placeTickByTick : Cond.code Y_Sirens_placeTickByTick.1 Y_Sirens_placeTickByTick.2.1 Y_Sirens_placeTickByTick.2.2.1 Y_Sirens_placeTickByTick.2.2.2.1 ∈ zWd := zin 840 (by decide +kernel) rfl
theorem lk_Sirens_placeTickByTick : zlk Y_Sirens_placeTickByTick 2 := ⟨w_c_Sirens_placeTickByTick, w_ini_Sirens, by decide +kernel, by decide +kernel, by decide⟩
theorem w_ml_SF_337 : Cond.methodLink "SirenFair" 337 Y_Sirens_placeTickByTick.1 ∈ zWd := zin 837 (by decide +kernel) rfl
theorem w_im_Sirens_placeTickByTick : Cond.instanceMethod Y_Sirens_placeTickByTick.1 ∈ zWd := zin 838 (by decide +kernel) rfl
theorem w_sel_Sirens_placeTickByTick : Cond.selects "SirenFair$Sirens" Y_Sirens_placeTickByTick.1 Y_Sirens_placeTickByTick.1 ∈ zWd := zin 839 (by decide +kernel) rfl
theorem lkV_SF_337 : zlkV "SirenFair" 337 Y_Sirens_placeTickByTick 2 := ⟨lk_Sirens_placeTickByTick, w_ml_SF_337, w_im_Sirens_placeTickByTick, w_sel_Sirens_placeTickByTick⟩
def Y_SF_heardIn : zY := (⟨"SirenFair", "heardIn", "(II)I"⟩, prog_1_method_24_code, 6, some .int, [])
def Y_SF_leastSpeed : zY := (⟨"SirenFair", "leastSpeed", "(I)I"⟩, prog_1_method_26_code, 3, some .int, [])
theorem w_c_Field_isLateWithin : Cond.code Y_Field_isLateWithin.1 Y_Field_isLateWithin.2.1 Y_Field_isLateWithin.2.2.1 Y_Field_isLateWithin.2.2.2.1 ∈ zWd := zin 866 (by decide +kernel) rfl
theorem lk_Field_isLateWithin : zlk Y_Field_isLateWithin 1 := ⟨w_c_Field_isLateWithin, w_ini_Field, by decide +kernel, by decide +kernel, by decide⟩
theorem w_ml_SF_348 : Cond.methodLink "SirenFair" 348 Y_Field_isLateWithin.1 ∈ zWd := zin 863 (by decide +kernel) rfl
theorem w_im_Field_isLateWithin : Cond.instanceMethod Y_Field_isLateWithin.1 ∈ zWd := zin 864 (by decide +kernel) rfl
theorem w_sel_Field_isLateWithin : Cond.selects "SirenFair$Field" Y_Field_isLateWithin.1 Y_Field_isLateWithin.1 ∈ zWd := zin 865 (by decide +kernel) rfl
theorem lkV_SF_348 : zlkV "SirenFair" 348 Y_Field_isLateWithin 1 := ⟨lk_Field_isLateWithin, w_ml_SF_348, w_im_Field_isLateWithin, w_sel_Field_isLateWithin⟩
def Y_SF_runScript : zY := (⟨"SirenFair", "runScript", "(IJ)I"⟩, prog_1_method_27_code, 6, some .int, [])
theorem th_SF_44_357_48 : zthr "SirenFair" "java/lang/IllegalArgumentException" "script is below 0 or has too many digits" 44 357 48 ["java/lang/RuntimeException", "java/lang/Exception"] := ⟨tha_SF_48, w_cl_SF_44, w_ini_IllegalArgumentException, List.mem_of_getElem? (i := 913) (by decide +kernel)⟩
theorem w_fl_SF_353 : Cond.fieldLink "SirenFair" 353 "SirenFair" "POWERS" "[J" ∈ zWd := zin 911 (by decide +kernel) rfl
theorem w_c_SF_succeeds : Cond.code Y_SF_succeeds.1 Y_SF_succeeds.2.1 Y_SF_succeeds.2.2.1 Y_SF_succeeds.2.2.2.1 ∈ zWd := zin 916 (by decide +kernel) rfl
theorem lk_SF_succeeds : zlk Y_SF_succeeds 2 := ⟨w_c_SF_succeeds, w_ini_SF, by decide +kernel, by decide +kernel, by decide⟩
theorem w_ml_SF_359 : Cond.methodLink "SirenFair" 359 Y_SF_succeeds.1 ∈ zWd := zin 914 (by decide +kernel) rfl
theorem w_st_SF_succeeds : Cond.static Y_SF_succeeds.1 ∈ zWd := zin 915 (by decide +kernel) rfl
theorem lkS_SF_359 : zlkS "SirenFair" 359 Y_SF_succeeds 2 := ⟨lk_SF_succeeds, w_ml_SF_359, w_st_SF_succeeds⟩
theorem th_SF_44_351_48 : zthr "SirenFair" "java/lang/IllegalArgumentException" "n is not 1 to 3" 44 351 48 ["java/lang/RuntimeException", "java/lang/Exception"] := ⟨tha_SF_48, w_cl_SF_44, w_ini_IllegalArgumentException, List.mem_of_getElem? (i := 910) (by decide +kernel)⟩
def Y_SF_simulate : zY := (⟨"SirenFair", "simulate", "(JI)I"⟩, prog_1_method_29_code, 10, some .int, [])
theorem w_k_SF_365 : Cond.constantLong "SirenFair" 365 (6364136223846793005) ∈ zWd := zin 926 (by decide +kernel) rfl
theorem w_k_SF_367 : Cond.constantLong "SirenFair" 367 (1442695040888963407) ∈ zWd := zin 927 (by decide +kernel) rfl
theorem w_c_SF_takeTurn : Cond.code Y_SF_takeTurn.1 Y_SF_takeTurn.2.1 Y_SF_takeTurn.2.2.1 Y_SF_takeTurn.2.2.2.1 ∈ zWd := zin 930 (by decide +kernel) rfl
theorem lk_SF_takeTurn : zlk Y_SF_takeTurn 2 := ⟨w_c_SF_takeTurn, w_ini_SF, by decide +kernel, by decide +kernel, by decide⟩
theorem w_ml_SF_369 : Cond.methodLink "SirenFair" 369 Y_SF_takeTurn.1 ∈ zWd := zin 928 (by decide +kernel) rfl
theorem w_st_SF_takeTurn : Cond.static Y_SF_takeTurn.1 ∈ zWd := zin 929 (by decide +kernel) rfl
theorem lkS_SF_369 : zlkS "SirenFair" 369 Y_SF_takeTurn 2 := ⟨lk_SF_takeTurn, w_ml_SF_369, w_st_SF_takeTurn⟩
theorem th_SF_44_363_48 : zthr "SirenFair" "java/lang/IllegalArgumentException" "m is not 1 to 60" 44 363 48 ["java/lang/RuntimeException", "java/lang/Exception"] := ⟨tha_SF_48, w_cl_SF_44, w_ini_IllegalArgumentException, List.mem_of_getElem? (i := 925) (by decide +kernel)⟩
def Y_SF_save : zY := (⟨"SirenFair", "save", "(I)I"⟩, prog_1_method_31_code, 2, some .int, [])
theorem w_fl_SF_33 : Cond.fieldLink "SirenFair" 33 "SirenFair" "saved" "[LSirenFair$Field;" ∈ zWd := zin 318 (by decide +kernel) rfl
theorem fl_SF_33 : zfl "SirenFair" 33 0 7 (.array (.object "SirenFair$Field")) true := ⟨_, _, _, _, zc_SirenFair, by decide, w_fl_SF_33, rfl, rfl, rfl⟩
theorem th_SF_178_376_182 : zthr "SirenFair" "java/lang/IndexOutOfBoundsException" "no such save slot" 178 376 182 ["java/lang/RuntimeException", "java/lang/Exception"] := ⟨tha_SF_182, w_cl_SF_178, w_ini_IndexOutOfBoundsException, List.mem_of_getElem? (i := 874) (by decide +kernel)⟩
def Y_SF_restore : zY := (⟨"SirenFair", "restore", "(I)I"⟩, prog_1_method_32_code, 2, some .int, [])
theorem th_SF_55_378_59 : zthr "SirenFair" "java/lang/IllegalStateException" "nothing is saved in the slot" 55 378 59 ["java/lang/RuntimeException", "java/lang/Exception"] := ⟨tha_SF_59, w_cl_SF_55, w_ini_IllegalStateException, List.mem_of_getElem? (i := 882) (by decide +kernel)⟩
theorem d_SF_append_0 : decode Y_SF_append.2.1 0 = .ok (.iload_n 1, 1) := by decide +kernel
theorem d_SF_append_1 : decode Y_SF_append.2.1 1 = .ok (.iconst (0), 1) := by decide +kernel
theorem d_SF_append_2 : decode Y_SF_append.2.1 2 = .ok (.sipush (255), 3) := by decide +kernel
theorem d_SF_append_5 : decode Y_SF_append.2.1 5 = .ok (.invokestatic 40, 3) := by decide +kernel
theorem d_SF_append_8 : decode Y_SF_append.2.1 8 = .ok (.ifCond .ne (13), 3) := by decide +kernel
theorem d_SF_append_11 : decode Y_SF_append.2.1 11 = .ok (.new 44, 3) := by decide +kernel
theorem d_SF_append_14 : decode Y_SF_append.2.1 14 = .ok (.dup, 1) := by decide +kernel
theorem d_SF_append_15 : decode Y_SF_append.2.1 15 = .ok (.ldc 46, 2) := by decide +kernel
theorem d_SF_append_17 : decode Y_SF_append.2.1 17 = .ok (.invokespecial 48, 3) := by decide +kernel
theorem d_SF_append_20 : decode Y_SF_append.2.1 20 = .ok (.athrow, 1) := by decide +kernel
theorem d_SF_append_21 : decode Y_SF_append.2.1 21 = .ok (.aload_n 0, 1) := by decide +kernel
theorem d_SF_append_22 : decode Y_SF_append.2.1 22 = .ok (.getfield 10, 3) := by decide +kernel
theorem d_SF_append_25 : decode Y_SF_append.2.1 25 = .ok (.getfield 51, 3) := by decide +kernel
theorem d_SF_append_28 : decode Y_SF_append.2.1 28 = .ok (.bipush (120), 2) := by decide +kernel
theorem d_SF_append_30 : decode Y_SF_append.2.1 30 = .ok (.if_icmp .lt (13), 3) := by decide +kernel
theorem d_SF_append_33 : decode Y_SF_append.2.1 33 = .ok (.new 55, 3) := by decide +kernel
theorem d_SF_append_36 : decode Y_SF_append.2.1 36 = .ok (.dup, 1) := by decide +kernel
theorem d_SF_append_37 : decode Y_SF_append.2.1 37 = .ok (.ldc 57, 2) := by decide +kernel
theorem d_SF_append_39 : decode Y_SF_append.2.1 39 = .ok (.invokespecial 59, 3) := by decide +kernel
theorem d_SF_append_42 : decode Y_SF_append.2.1 42 = .ok (.athrow, 1) := by decide +kernel
theorem d_SF_append_43 : decode Y_SF_append.2.1 43 = .ok (.aload_n 0, 1) := by decide +kernel
theorem d_SF_append_44 : decode Y_SF_append.2.1 44 = .ok (.getfield 10, 3) := by decide +kernel
theorem d_SF_append_47 : decode Y_SF_append.2.1 47 = .ok (.iload_n 1, 1) := by decide +kernel
theorem d_SF_append_48 : decode Y_SF_append.2.1 48 = .ok (.i2c, 1) := by decide +kernel
theorem d_SF_append_49 : decode Y_SF_append.2.1 49 = .ok (.invokevirtual 60, 3) := by decide +kernel
theorem d_SF_append_52 : decode Y_SF_append.2.1 52 = .ok (.ireturn, 1) := by decide +kernel
def f_SF_append (w : zW) (D : zD) (a : Nat) (x1 : Int32) : Option ((Int32 ⊕ String) × zD) := zci (f_SF_isWithin w D x1 (0 : Int32) (255 : Int32)) (fun v1 D2 => (if v1 = 0 then some (.inr "java/lang/IllegalArgumentException", D2) else zref w 0 0 a (fun p3 => zfld w D2 2 1 p3 (fun v4 => (if v4 < (120 : Int32) then zref w 0 0 a (fun p5 => zobj w 2 p5 (zci (f_FairText_add w D2 p5 ((x1.toUInt32 % 65536).toInt32)) (fun v6 D7 => some (.inl v6, D7)))) else some (.inr "java/lang/IllegalStateException", D2))))))
set_option maxHeartbeats 4000000 in
set_option maxRecDepth 100000 in
theorem c_SF_append (z : zT) (D : zD) (a : Nat) (x1 : Int32) : zMX Y_SF_append 8 1 6 (zqX z) (f_SF_append z.2 D a x1) [.ref a, .int x1] z D := by
  refine zMX_of (plainFor_of_name (by decide +kernel)) rfl (Nat.le_of_ble_eq_true rfl) (fun K => ?_)
  unfold f_SF_append
  refine z_iload_n (pc := 0) d_SF_append_0 rfl 1 rfl ?_
  refine z_iconst (pc := 1) d_SF_append_1 ki_0 ?_
  refine z_sipush (pc := 2) d_SF_append_2 ks_255 ?_
  refine z_callSi (pc := 5) [.int x1, .int (0 : Int32), .int (255 : Int32)] lkS_SF_40 (c_SF_isWithin z D x1 (0 : Int32) (255 : Int32)) (by decide) rfl rfl (Nat.le_of_ble_eq_true rfl) d_SF_append_5 (fun v1 D2 => ?_)
  refine z_if_ne (pc := 8) (tgt := 21) d_SF_append_8 (by decide) ?_ ?_
  · exact z_throw (pc := 11) th_SF_44_46_48 rfl (by decide) (Nat.le_of_ble_eq_true rfl) (by decide) (by decide) d_SF_append_11 d_SF_append_14 d_SF_append_15 d_SF_append_17 d_SF_append_20
  · refine z_aload_n (pc := 21) d_SF_append_21 rfl 0 rfl ?_
    refine z_getR (pc := 22) fl_SF_10 d_SF_append_22 (fun p3 => ?_)
    refine z_getI (pc := 25) fl_SF_51 d_SF_append_25 (fun v4 => ?_)
    refine z_bipush (pc := 28) d_SF_append_28 kb_120 ?_
    refine z_icmp_lt (pc := 30) (tgt := 43) d_SF_append_30 (by decide) ?_ ?_
    · refine z_aload_n (pc := 43) d_SF_append_43 rfl 0 rfl ?_
      refine z_getR (pc := 44) fl_SF_10 d_SF_append_44 (fun p5 => ?_)
      refine z_iload_n (pc := 47) d_SF_append_47 rfl 1 rfl ?_
      refine z_i2c (pc := 48) d_SF_append_48 ?_
      refine z_callVi (pc := 49) [.int ((x1.toUInt32 % 65536).toInt32)] lkV_SF_60 rfl (c_FairText_add z D2 p5 ((x1.toUInt32 % 65536).toInt32)) (by decide) rfl rfl (Nat.le_of_ble_eq_true rfl) d_SF_append_49 (fun v6 D7 => ?_)
      exact z_xret (pc := 52) d_SF_append_52 rfl
    · exact z_throw (pc := 33) th_SF_55_57_59 rfl (by decide) (Nat.le_of_ble_eq_true rfl) (by decide) (by decide) d_SF_append_33 d_SF_append_36 d_SF_append_37 d_SF_append_39 d_SF_append_42
theorem d_SF_load_0 : decode Y_SF_load.2.1 0 = .ok (.aload_n 0, 1) := by decide +kernel
theorem d_SF_load_1 : decode Y_SF_load.2.1 1 = .ok (.getfield 10, 3) := by decide +kernel
theorem d_SF_load_4 : decode Y_SF_load.2.1 4 = .ok (.invokevirtual 64, 3) := by decide +kernel
theorem d_SF_load_7 : decode Y_SF_load.2.1 7 = .ok (.iconst (-1), 1) := by decide +kernel
theorem d_SF_load_8 : decode Y_SF_load.2.1 8 = .ok (.if_icmp .eq (13), 3) := by decide +kernel
theorem d_SF_load_11 : decode Y_SF_load.2.1 11 = .ok (.new 55, 3) := by decide +kernel
theorem d_SF_load_14 : decode Y_SF_load.2.1 14 = .ok (.dup, 1) := by decide +kernel
theorem d_SF_load_15 : decode Y_SF_load.2.1 15 = .ok (.ldc 68, 2) := by decide +kernel
theorem d_SF_load_17 : decode Y_SF_load.2.1 17 = .ok (.invokespecial 59, 3) := by decide +kernel
theorem d_SF_load_20 : decode Y_SF_load.2.1 20 = .ok (.athrow, 1) := by decide +kernel
theorem d_SF_load_21 : decode Y_SF_load.2.1 21 = .ok (.aload_n 0, 1) := by decide +kernel
theorem d_SF_load_22 : decode Y_SF_load.2.1 22 = .ok (.getfield 19, 3) := by decide +kernel
theorem d_SF_load_25 : decode Y_SF_load.2.1 25 = .ok (.aload_n 0, 1) := by decide +kernel
theorem d_SF_load_26 : decode Y_SF_load.2.1 26 = .ok (.getfield 23, 3) := by decide +kernel
theorem d_SF_load_29 : decode Y_SF_load.2.1 29 = .ok (.invokevirtual 70, 3) := by decide +kernel
theorem d_SF_load_32 : decode Y_SF_load.2.1 32 = .ok (.aload_n 0, 1) := by decide +kernel
theorem d_SF_load_33 : decode Y_SF_load.2.1 33 = .ok (.invokevirtual 74, 3) := by decide +kernel
theorem d_SF_load_36 : decode Y_SF_load.2.1 36 = .ok (.iconst (0), 1) := by decide +kernel
theorem d_SF_load_37 : decode Y_SF_load.2.1 37 = .ok (.istore_n 1, 1) := by decide +kernel
theorem d_SF_load_38 : decode Y_SF_load.2.1 38 = .ok (.iload_n 1, 1) := by decide +kernel
theorem d_SF_load_39 : decode Y_SF_load.2.1 39 = .ok (.iconst (2), 1) := by decide +kernel
theorem d_SF_load_40 : decode Y_SF_load.2.1 40 = .ok (.if_icmp .ge (16), 3) := by decide +kernel
theorem d_SF_load_43 : decode Y_SF_load.2.1 43 = .ok (.aload_n 0, 1) := by decide +kernel
theorem d_SF_load_44 : decode Y_SF_load.2.1 44 = .ok (.getfield 36, 3) := by decide +kernel
theorem d_SF_load_47 : decode Y_SF_load.2.1 47 = .ok (.iload_n 1, 1) := by decide +kernel
theorem d_SF_load_48 : decode Y_SF_load.2.1 48 = .ok (.iconst (0), 1) := by decide +kernel
theorem d_SF_load_49 : decode Y_SF_load.2.1 49 = .ok (.bastore, 1) := by decide +kernel
theorem d_SF_load_50 : decode Y_SF_load.2.1 50 = .ok (.iinc 1 (1), 3) := by decide +kernel
theorem d_SF_load_53 : decode Y_SF_load.2.1 53 = .ok (.goto (-15), 3) := by decide +kernel
theorem d_SF_load_56 : decode Y_SF_load.2.1 56 = .ok (.iconst (0), 1) := by decide +kernel
theorem d_SF_load_57 : decode Y_SF_load.2.1 57 = .ok (.istore_n 1, 1) := by decide +kernel
theorem d_SF_load_58 : decode Y_SF_load.2.1 58 = .ok (.aload_n 0, 1) := by decide +kernel
theorem d_SF_load_59 : decode Y_SF_load.2.1 59 = .ok (.getfield 10, 3) := by decide +kernel
theorem d_SF_load_62 : decode Y_SF_load.2.1 62 = .ok (.invokevirtual 77, 3) := by decide +kernel
theorem d_SF_load_65 : decode Y_SF_load.2.1 65 = .ok (.iconst (0), 1) := by decide +kernel
theorem d_SF_load_66 : decode Y_SF_load.2.1 66 = .ok (.istore_n 2, 1) := by decide +kernel
theorem d_SF_load_67 : decode Y_SF_load.2.1 67 = .ok (.iload_n 2, 1) := by decide +kernel
theorem d_SF_load_68 : decode Y_SF_load.2.1 68 = .ok (.bipush (120), 2) := by decide +kernel
theorem d_SF_load_70 : decode Y_SF_load.2.1 70 = .ok (.if_icmp .ge (63), 3) := by decide +kernel
theorem d_SF_load_73 : decode Y_SF_load.2.1 73 = .ok (.aload_n 0, 1) := by decide +kernel
theorem d_SF_load_74 : decode Y_SF_load.2.1 74 = .ok (.getfield 10, 3) := by decide +kernel
theorem d_SF_load_77 : decode Y_SF_load.2.1 77 = .ok (.getfield 80, 3) := by decide +kernel
theorem d_SF_load_80 : decode Y_SF_load.2.1 80 = .ok (.aload_n 0, 1) := by decide +kernel
theorem d_SF_load_81 : decode Y_SF_load.2.1 81 = .ok (.getfield 10, 3) := by decide +kernel
theorem d_SF_load_84 : decode Y_SF_load.2.1 84 = .ok (.getfield 51, 3) := by decide +kernel
theorem d_SF_load_87 : decode Y_SF_load.2.1 87 = .ok (.if_icmp .ge (46), 3) := by decide +kernel
theorem d_SF_load_90 : decode Y_SF_load.2.1 90 = .ok (.aload_n 0, 1) := by decide +kernel
theorem d_SF_load_91 : decode Y_SF_load.2.1 91 = .ok (.getfield 10, 3) := by decide +kernel
theorem d_SF_load_94 : decode Y_SF_load.2.1 94 = .ok (.invokevirtual 83, 3) := by decide +kernel
theorem d_SF_load_97 : decode Y_SF_load.2.1 97 = .ok (.ifCond .eq (36), 3) := by decide +kernel
theorem d_SF_load_100 : decode Y_SF_load.2.1 100 = .ok (.aload_n 0, 1) := by decide +kernel
theorem d_SF_load_101 : decode Y_SF_load.2.1 101 = .ok (.getfield 19, 3) := by decide +kernel
theorem d_SF_load_104 : decode Y_SF_load.2.1 104 = .ok (.aload_n 0, 1) := by decide +kernel
theorem d_SF_load_105 : decode Y_SF_load.2.1 105 = .ok (.getfield 10, 3) := by decide +kernel
theorem d_SF_load_108 : decode Y_SF_load.2.1 108 = .ok (.getfield 87, 3) := by decide +kernel
theorem d_SF_load_111 : decode Y_SF_load.2.1 111 = .ok (.aload_n 0, 1) := by decide +kernel
theorem d_SF_load_112 : decode Y_SF_load.2.1 112 = .ok (.getfield 10, 3) := by decide +kernel
theorem d_SF_load_115 : decode Y_SF_load.2.1 115 = .ok (.getfield 90, 3) := by decide +kernel
theorem d_SF_load_118 : decode Y_SF_load.2.1 118 = .ok (.invokestatic 94, 3) := by decide +kernel
theorem d_SF_load_121 : decode Y_SF_load.2.1 121 = .ok (.ifCond .ne (6), 3) := by decide +kernel
theorem d_SF_load_124 : decode Y_SF_load.2.1 124 = .ok (.iinc 1 (1), 3) := by decide +kernel
theorem d_SF_load_127 : decode Y_SF_load.2.1 127 = .ok (.iinc 2 (1), 3) := by decide +kernel
theorem d_SF_load_130 : decode Y_SF_load.2.1 130 = .ok (.goto (-63), 3) := by decide +kernel
theorem d_SF_load_133 : decode Y_SF_load.2.1 133 = .ok (.iload_n 1, 1) := by decide +kernel
theorem d_SF_load_134 : decode Y_SF_load.2.1 134 = .ok (.ireturn, 1) := by decide +kernel
def f_SF_load (w : zW) (D : zD) (a : Nat) : Option ((Int32 ⊕ String) × zD) := zref w 0 0 a (fun p1 => zobj w 2 p1 (zci (f_FairText_firstError w D p1 ) (fun v2 D3 => (if v2 = (-1 : Int32) then zjp (zlp (fun (_ : Int32) (_ : zD) => none) (fun (j38 : Int32 → zD → Option ((Int32 ⊕ String) × zD)) (x1 : Int32) (D4 : zD) => (if (2 : Int32) ≤ x1 then zjp (zlp (fun (_ : Int32) (_ : Int32) (_ : zD) => none) (fun (j67 : Int32 → Int32 → zD → Option ((Int32 ⊕ String) × zD)) (x1 : Int32) (x2 : Int32) (D5 : zD) => zjp (fun (x1 : Int32) (D6 : zD) => some (.inl x1, D6)) (fun j133 => (if (120 : Int32) ≤ x2 then j133 x1 D5 else zref w 0 0 a (fun p7 => zfld w D5 2 2 p7 (fun v8 => zref w 0 0 a (fun p9 => zfld w D5 2 1 p9 (fun v10 => (if v10 ≤ v8 then j133 x1 D5 else zref w 0 0 a (fun p11 => zobj w 2 p11 (zci (f_FairText_readCommand w D5 p11 ) (fun v12 D13 => (if v12 = 0 then j133 x1 D13 else zjp (fun (x1 : Int32) (x2 : Int32) (D14 : zD) => zlet (x2 + (1 : Int32)) (fun v15 => j67 x1 v15 D14)) (fun j127 => zref w 0 1 a (fun p16 => zref w 0 0 a (fun p17 => zfld w D13 2 3 p17 (fun v18 => zref w 0 0 a (fun p19 => zref w 2 4 p19 (fun p20 => zci (f_SF_obeys w D13 p16 v18 p20) (fun v21 D22 => (if v21 = 0 then zlet (x1 + (1 : Int32)) (fun v23 => j127 v23 x2 D22) else j127 x1 x2 D22)))))))))))))))))))) zfuel) (fun j67 => zref w 0 0 a (fun p24 => zobj w 2 p24 (zcv (f_FairText_toFirstCommand w D4 p24 ) (fun D25 => j67 (0 : Int32) (0 : Int32) D25)))) else zref w 0 8 a (fun p26 => zast w D4 2 p26 x1 (vp_nar .boolean (0 : Int32)) (fun D27 => zlet (x1 + (1 : Int32)) (fun v28 => j38 v28 D27))))) zfuel) (fun j38 => zref w 0 1 a (fun p29 => zref w 0 2 a (fun p30 => zobj w 3 p29 (zcv (f_Field_copyFrom w D3 p29 p30) (fun D31 => zobj w 0 a (zcv (f_SF_forgetRemembered w D31 a ) (fun D32 => j38 (0 : Int32) D32))))))) else some (.inr "java/lang/IllegalStateException", D3)))))
set_option maxHeartbeats 4000000 in
set_option maxRecDepth 100000 in
theorem c_SF_load (z : zT) (D : zD) (a : Nat) : zMX Y_SF_load 8 1 6 (zqX z) (f_SF_load z.2 D a) [.ref a] z D := by
  refine zMX_of (plainFor_of_name (by decide +kernel)) rfl (Nat.le_of_ble_eq_true rfl) (fun K => ?_)
  unfold f_SF_load
  refine z_aload_n (pc := 0) d_SF_load_0 rfl 0 rfl ?_
  refine z_getR (pc := 1) fl_SF_10 d_SF_load_1 (fun p1 => ?_)
  refine z_callVi (pc := 4) [] lkV_SF_64 rfl (c_FairText_firstError z D p1 ) (by decide) rfl rfl (Nat.le_of_ble_eq_true rfl) d_SF_load_4 (fun v2 D3 => ?_)
  refine z_iconst (pc := 7) d_SF_load_7 ki_m1 ?_
  refine z_icmp_eq (pc := 8) (tgt := 21) d_SF_load_8 (by decide) ?_ ?_
  · refine z_jp (fun j38 : Int32 → zD → Option ((Int32 ⊕ String) × zD) => ∀ (x1 : Int32) (D4 : zD), zGO K Y_SF_load 8 1 6 (zqX z) (j38 x1 D4) 1 6 z D4 38 [(0, .ref a), (1, .int x1)] []) (z_lp (fun j38 : Int32 → zD → Option ((Int32 ⊕ String) × zD) => ∀ (x1 : Int32) (D4 : zD), zGO K Y_SF_load 8 1 6 (zqX z) (j38 x1 D4) 1 6 z D4 38 [(0, .ref a), (1, .int x1)] []) (fun _ _ => z_none) (fun j38 h38 x1 D4 => ?_) zfuel) (fun j38 h38 => ?_)
    · refine z_iload_n (pc := 38) d_SF_load_38 rfl 1 rfl ?_
      refine z_iconst (pc := 39) d_SF_load_39 ki_2 ?_
      refine z_icmp_ge (pc := 40) (tgt := 56) d_SF_load_40 (by decide) ?_ ?_
      · refine z_jp (fun j67 : Int32 → Int32 → zD → Option ((Int32 ⊕ String) × zD) => ∀ (x1 : Int32) (x2 : Int32) (D5 : zD), zGO K Y_SF_load 8 1 6 (zqX z) (j67 x1 x2 D5) 1 6 z D5 67 [(0, .ref a), (1, .int x1), (2, .int x2)] []) (z_lp (fun j67 : Int32 → Int32 → zD → Option ((Int32 ⊕ String) × zD) => ∀ (x1 : Int32) (x2 : Int32) (D5 : zD), zGO K Y_SF_load 8 1 6 (zqX z) (j67 x1 x2 D5) 1 6 z D5 67 [(0, .ref a), (1, .int x1), (2, .int x2)] []) (fun _ _ _ => z_none) (fun j67 h67 x1 x2 D5 => ?_) zfuel) (fun j67 h67 => ?_)
        · refine z_jp (fun j133 : Int32 → zD → Option ((Int32 ⊕ String) × zD) => ∀ (x1 : Int32) (D6 : zD), zGO K Y_SF_load 8 1 6 (zqX z) (j133 x1 D6) 1 6 z D6 133 [(1, .int x1)] []) (fun x1 D6 => ?_) (fun j133 h133 => ?_)
          · refine z_iload_n (pc := 133) d_SF_load_133 rfl 0 rfl ?_
            exact z_xret (pc := 134) d_SF_load_134 rfl
          · refine z_iload_n (pc := 67) d_SF_load_67 rfl 2 rfl ?_
            refine z_bipush (pc := 68) d_SF_load_68 kb_120 ?_
            refine z_icmp_ge (pc := 70) (tgt := 133) d_SF_load_70 (by decide) ?_ ?_
            · exact z_sub [1] rfl (h133 x1 D5)
            · refine z_aload_n (pc := 73) d_SF_load_73 rfl 0 rfl ?_
              refine z_getR (pc := 74) fl_SF_10 d_SF_load_74 (fun p7 => ?_)
              refine z_getI (pc := 77) fl_SF_80 d_SF_load_77 (fun v8 => ?_)
              refine z_aload_n (pc := 80) d_SF_load_80 rfl 0 rfl ?_
              refine z_getR (pc := 81) fl_SF_10 d_SF_load_81 (fun p9 => ?_)
              refine z_getI (pc := 84) fl_SF_51 d_SF_load_84 (fun v10 => ?_)
              refine z_icmp_ge (pc := 87) (tgt := 133) d_SF_load_87 (by decide) ?_ ?_
              · exact z_sub [1] rfl (h133 x1 D5)
              · refine z_aload_n (pc := 90) d_SF_load_90 rfl 0 rfl ?_
                refine z_getR (pc := 91) fl_SF_10 d_SF_load_91 (fun p11 => ?_)
                refine z_callVi (pc := 94) [] lkV_SF_83 rfl (c_FairText_readCommand z D5 p11 ) (by decide) rfl rfl (Nat.le_of_ble_eq_true rfl) d_SF_load_94 (fun v12 D13 => ?_)
                refine z_if_eq (pc := 97) (tgt := 133) d_SF_load_97 (by decide) ?_ ?_
                · exact z_sub [1] rfl (h133 x1 D13)
                · refine z_jp (fun j127 : Int32 → Int32 → zD → Option ((Int32 ⊕ String) × zD) => ∀ (x1 : Int32) (x2 : Int32) (D14 : zD), zGO K Y_SF_load 8 1 6 (zqX z) (j127 x1 x2 D14) 1 6 z D14 127 [(0, .ref a), (1, .int x1), (2, .int x2)] []) (fun x1 x2 D14 => ?_) (fun j127 h127 => ?_)
                  · refine z_iincL (pc := 127) d_SF_load_127 ki_1 2 rfl (by decide) (fun v15 => z_lvc (lv2 := [(2, .int v15), (0, .ref a), (1, .int x1)]) rfl ?_)
                    refine z_goto (pc := 130) (tgt := 67) d_SF_load_130 (by decide) ?_
                    exact z_sub [1, 2, 0] rfl (h67 x1 v15 D14)
                  · refine z_aload_n (pc := 100) d_SF_load_100 rfl 0 rfl ?_
                    refine z_getR (pc := 101) fl_SF_19 d_SF_load_101 (fun p16 => ?_)
                    refine z_aload_n (pc := 104) d_SF_load_104 rfl 0 rfl ?_
                    refine z_getR (pc := 105) fl_SF_10 d_SF_load_105 (fun p17 => ?_)
                    refine z_getI (pc := 108) fl_SF_87 d_SF_load_108 (fun v18 => ?_)
                    refine z_aload_n (pc := 111) d_SF_load_111 rfl 0 rfl ?_
                    refine z_getR (pc := 112) fl_SF_10 d_SF_load_112 (fun p19 => ?_)
                    refine z_getR (pc := 115) fl_SF_90 d_SF_load_115 (fun p20 => ?_)
                    refine z_callSi (pc := 118) [.ref p16, .int v18, .ref p20] lkS_SF_94 (c_SF_obeys z D13 p16 v18 p20) (by decide) rfl rfl (Nat.le_of_ble_eq_true rfl) d_SF_load_118 (fun v21 D22 => ?_)
                    refine z_if_ne (pc := 121) (tgt := 127) d_SF_load_121 (by decide) ?_ ?_
                    · refine z_iincL (pc := 124) d_SF_load_124 ki_1 1 rfl (by decide) (fun v23 => z_lvc (lv2 := [(1, .int v23), (0, .ref a), (2, .int x2)]) rfl ?_)
                      exact z_sub [1, 0, 2] rfl (h127 v23 x2 D22)
                    · exact z_sub [0, 1, 2] rfl (h127 x1 x2 D22)
        · refine z_iconst (pc := 56) d_SF_load_56 ki_0 ?_
          refine z_istore_n (pc := 57) d_SF_load_57 rfl (by decide) (lv' := [(1, .int (0 : Int32)), (0, .ref a)]) rfl ?_
          refine z_aload_n (pc := 58) d_SF_load_58 rfl 1 rfl ?_
          refine z_getR (pc := 59) fl_SF_10 d_SF_load_59 (fun p24 => ?_)
          refine z_callVv (pc := 62) [] lkV_SF_77 rfl (c_FairText_toFirstCommand z D4 p24 ) (by decide) rfl rfl (Nat.le_of_ble_eq_true rfl) d_SF_load_62 (fun D25 => ?_)
          refine z_iconst (pc := 65) d_SF_load_65 ki_0 ?_
          refine z_istore_n (pc := 66) d_SF_load_66 rfl (by decide) (lv' := [(2, .int (0 : Int32)), (1, .int (0 : Int32)), (0, .ref a)]) rfl ?_
          exact z_sub [2, 1, 0] rfl (h67 (0 : Int32) (0 : Int32) D25)
      · refine z_aload_n (pc := 43) d_SF_load_43 rfl 0 rfl ?_
        refine z_getR (pc := 44) fl_SF_36 d_SF_load_44 (fun p26 => ?_)
        refine z_iload_n (pc := 47) d_SF_load_47 rfl 1 rfl ?_
        refine z_iconst (pc := 48) d_SF_load_48 ki_0 ?_
        refine z_bastore (pc := 49) d_SF_load_49 (fun D27 => ?_)
        refine z_iincL (pc := 50) d_SF_load_50 ki_1 1 rfl (by decide) (fun v28 => z_lvc (lv2 := [(1, .int v28), (0, .ref a)]) rfl ?_)
        refine z_goto (pc := 53) (tgt := 38) d_SF_load_53 (by decide) ?_
        exact z_sub [1, 0] rfl (h38 v28 D27)
    · refine z_aload_n (pc := 21) d_SF_load_21 rfl 0 rfl ?_
      refine z_getR (pc := 22) fl_SF_19 d_SF_load_22 (fun p29 => ?_)
      refine z_aload_n (pc := 25) d_SF_load_25 rfl 0 rfl ?_
      refine z_getR (pc := 26) fl_SF_23 d_SF_load_26 (fun p30 => ?_)
      refine z_callVv (pc := 29) [.ref p30] lkV_SF_70 rfl (c_Field_copyFrom z D3 p29 p30) (by decide) rfl rfl (Nat.le_of_ble_eq_true rfl) d_SF_load_29 (fun D31 => ?_)
      refine z_aload_n (pc := 32) d_SF_load_32 rfl 0 rfl ?_
      refine z_callVv (pc := 33) [] lkV_SF_74 rfl (c_SF_forgetRemembered z D31 a ) (by decide) rfl rfl (Nat.le_of_ble_eq_true rfl) d_SF_load_33 (fun D32 => ?_)
      refine z_iconst (pc := 36) d_SF_load_36 ki_0 ?_
      refine z_istore_n (pc := 37) d_SF_load_37 rfl (by decide) (lv' := [(1, .int (0 : Int32)), (0, .ref a)]) rfl ?_
      exact z_sub [1, 0] rfl (h38 (0 : Int32) D32)
  · exact z_throw (pc := 11) th_SF_55_68_59 rfl (by decide) (Nat.le_of_ble_eq_true rfl) (by decide) (by decide) d_SF_load_11 d_SF_load_14 d_SF_load_15 d_SF_load_17 d_SF_load_20
theorem d_SF_about_0 : decode Y_SF_about.2.1 0 = .ok (.iload_n 1, 1) := by decide +kernel
theorem d_SF_about_1 : decode Y_SF_about.2.1 1 = .ok (.tableswitch (159) 0 9 #[(55), (66), (77), (88), (96), (107), (115), (126), (137), (148)], 55) := by decide +kernel
theorem d_SF_about_56 : decode Y_SF_about.2.1 56 = .ok (.aload_n 0, 1) := by decide +kernel
theorem d_SF_about_57 : decode Y_SF_about.2.1 57 = .ok (.getfield 19, 3) := by decide +kernel
theorem d_SF_about_60 : decode Y_SF_about.2.1 60 = .ok (.getfield 98, 3) := by decide +kernel
theorem d_SF_about_63 : decode Y_SF_about.2.1 63 = .ok (.getfield 136, 3) := by decide +kernel
theorem d_SF_about_66 : decode Y_SF_about.2.1 66 = .ok (.ireturn, 1) := by decide +kernel
theorem d_SF_about_67 : decode Y_SF_about.2.1 67 = .ok (.aload_n 0, 1) := by decide +kernel
theorem d_SF_about_68 : decode Y_SF_about.2.1 68 = .ok (.getfield 19, 3) := by decide +kernel
theorem d_SF_about_71 : decode Y_SF_about.2.1 71 = .ok (.getfield 107, 3) := by decide +kernel
theorem d_SF_about_74 : decode Y_SF_about.2.1 74 = .ok (.getfield 139, 3) := by decide +kernel
theorem d_SF_about_77 : decode Y_SF_about.2.1 77 = .ok (.ireturn, 1) := by decide +kernel
theorem d_SF_about_78 : decode Y_SF_about.2.1 78 = .ok (.aload_n 0, 1) := by decide +kernel
theorem d_SF_about_79 : decode Y_SF_about.2.1 79 = .ok (.getfield 19, 3) := by decide +kernel
theorem d_SF_about_82 : decode Y_SF_about.2.1 82 = .ok (.getfield 116, 3) := by decide +kernel
theorem d_SF_about_85 : decode Y_SF_about.2.1 85 = .ok (.getfield 140, 3) := by decide +kernel
theorem d_SF_about_88 : decode Y_SF_about.2.1 88 = .ok (.ireturn, 1) := by decide +kernel
theorem d_SF_about_89 : decode Y_SF_about.2.1 89 = .ok (.aload_n 0, 1) := by decide +kernel
theorem d_SF_about_90 : decode Y_SF_about.2.1 90 = .ok (.getfield 19, 3) := by decide +kernel
theorem d_SF_about_93 : decode Y_SF_about.2.1 93 = .ok (.getfield 141, 3) := by decide +kernel
theorem d_SF_about_96 : decode Y_SF_about.2.1 96 = .ok (.ireturn, 1) := by decide +kernel
theorem d_SF_about_97 : decode Y_SF_about.2.1 97 = .ok (.aload_n 0, 1) := by decide +kernel
theorem d_SF_about_98 : decode Y_SF_about.2.1 98 = .ok (.getfield 19, 3) := by decide +kernel
theorem d_SF_about_101 : decode Y_SF_about.2.1 101 = .ok (.getfield 144, 3) := by decide +kernel
theorem d_SF_about_104 : decode Y_SF_about.2.1 104 = .ok (.getfield 148, 3) := by decide +kernel
theorem d_SF_about_107 : decode Y_SF_about.2.1 107 = .ok (.ireturn, 1) := by decide +kernel
theorem d_SF_about_108 : decode Y_SF_about.2.1 108 = .ok (.aload_n 0, 1) := by decide +kernel
theorem d_SF_about_109 : decode Y_SF_about.2.1 109 = .ok (.getfield 19, 3) := by decide +kernel
theorem d_SF_about_112 : decode Y_SF_about.2.1 112 = .ok (.getfield 151, 3) := by decide +kernel
theorem d_SF_about_115 : decode Y_SF_about.2.1 115 = .ok (.ireturn, 1) := by decide +kernel
theorem d_SF_about_116 : decode Y_SF_about.2.1 116 = .ok (.aload_n 0, 1) := by decide +kernel
theorem d_SF_about_117 : decode Y_SF_about.2.1 117 = .ok (.getfield 19, 3) := by decide +kernel
theorem d_SF_about_120 : decode Y_SF_about.2.1 120 = .ok (.getfield 154, 3) := by decide +kernel
theorem d_SF_about_123 : decode Y_SF_about.2.1 123 = .ok (.getfield 158, 3) := by decide +kernel
theorem d_SF_about_126 : decode Y_SF_about.2.1 126 = .ok (.ireturn, 1) := by decide +kernel
theorem d_SF_about_127 : decode Y_SF_about.2.1 127 = .ok (.aload_n 0, 1) := by decide +kernel
theorem d_SF_about_128 : decode Y_SF_about.2.1 128 = .ok (.getfield 19, 3) := by decide +kernel
theorem d_SF_about_131 : decode Y_SF_about.2.1 131 = .ok (.getfield 154, 3) := by decide +kernel
theorem d_SF_about_134 : decode Y_SF_about.2.1 134 = .ok (.getfield 163, 3) := by decide +kernel
theorem d_SF_about_137 : decode Y_SF_about.2.1 137 = .ok (.ireturn, 1) := by decide +kernel
theorem d_SF_about_138 : decode Y_SF_about.2.1 138 = .ok (.aload_n 0, 1) := by decide +kernel
theorem d_SF_about_139 : decode Y_SF_about.2.1 139 = .ok (.getfield 19, 3) := by decide +kernel
theorem d_SF_about_142 : decode Y_SF_about.2.1 142 = .ok (.getfield 154, 3) := by decide +kernel
theorem d_SF_about_145 : decode Y_SF_about.2.1 145 = .ok (.getfield 166, 3) := by decide +kernel
theorem d_SF_about_148 : decode Y_SF_about.2.1 148 = .ok (.ireturn, 1) := by decide +kernel
theorem d_SF_about_149 : decode Y_SF_about.2.1 149 = .ok (.aload_n 0, 1) := by decide +kernel
theorem d_SF_about_150 : decode Y_SF_about.2.1 150 = .ok (.getfield 19, 3) := by decide +kernel
theorem d_SF_about_153 : decode Y_SF_about.2.1 153 = .ok (.getfield 107, 3) := by decide +kernel
theorem d_SF_about_156 : decode Y_SF_about.2.1 156 = .ok (.getfield 169, 3) := by decide +kernel
theorem d_SF_about_159 : decode Y_SF_about.2.1 159 = .ok (.ireturn, 1) := by decide +kernel
theorem d_SF_about_160 : decode Y_SF_about.2.1 160 = .ok (.new 44, 3) := by decide +kernel
theorem d_SF_about_163 : decode Y_SF_about.2.1 163 = .ok (.dup, 1) := by decide +kernel
theorem d_SF_about_164 : decode Y_SF_about.2.1 164 = .ok (.ldc 172, 2) := by decide +kernel
theorem d_SF_about_166 : decode Y_SF_about.2.1 166 = .ok (.invokespecial 48, 3) := by decide +kernel
theorem d_SF_about_169 : decode Y_SF_about.2.1 169 = .ok (.athrow, 1) := by decide +kernel
def f_SF_about (w : zW) (D : zD) (a : Nat) (x1 : Int32) : Option ((Int32 ⊕ String) × zD) := (if x1 = (0 : Int32) then zref w 0 1 a (fun p1 => zref w 3 0 p1 (fun p2 => zfld w D 6 7 p2 (fun v3 => some (.inl v3, D)))) else (if x1 = (1 : Int32) then zref w 0 1 a (fun p4 => zref w 3 1 p4 (fun p5 => zfld w D 4 6 p5 (fun v6 => some (.inl v6, D)))) else (if x1 = (2 : Int32) then zref w 0 1 a (fun p7 => zref w 3 2 p7 (fun p8 => zfld w D 7 2 p8 (fun v9 => some (.inl v9, D)))) else (if x1 = (3 : Int32) then zref w 0 1 a (fun p10 => zfld w D 3 5 p10 (fun v11 => some (.inl v11, D))) else (if x1 = (4 : Int32) then zref w 0 1 a (fun p12 => zref w 3 3 p12 (fun p13 => zfld w D 5 7 p13 (fun v14 => some (.inl v14, D)))) else (if x1 = (5 : Int32) then zref w 0 1 a (fun p15 => zfld w D 3 6 p15 (fun v16 => some (.inl v16, D))) else (if x1 = (6 : Int32) then zref w 0 1 a (fun p17 => zref w 3 4 p17 (fun p18 => zfld w D 1 6 p18 (fun v19 => some (.inl v19, D)))) else (if x1 = (7 : Int32) then zref w 0 1 a (fun p20 => zref w 3 4 p20 (fun p21 => zfld w D 1 7 p21 (fun v22 => some (.inl v22, D)))) else (if x1 = (8 : Int32) then zref w 0 1 a (fun p23 => zref w 3 4 p23 (fun p24 => zfld w D 1 8 p24 (fun v25 => some (.inl v25, D)))) else (if x1 = (9 : Int32) then zref w 0 1 a (fun p26 => zref w 3 1 p26 (fun p27 => zfld w D 4 7 p27 (fun v28 => some (.inl v28, D)))) else some (.inr "java/lang/IllegalArgumentException", D)))))))))))
set_option maxHeartbeats 4000000 in
set_option maxRecDepth 100000 in
theorem c_SF_about (z : zT) (D : zD) (a : Nat) (x1 : Int32) : zMX Y_SF_about 8 1 6 (zqX z) (f_SF_about z.2 D a x1) [.ref a, .int x1] z D := by
  refine zMX_of (plainFor_of_name (by decide +kernel)) rfl (Nat.le_of_ble_eq_true rfl) (fun K => ?_)
  unfold f_SF_about
  refine z_iload_n (pc := 0) d_SF_about_0 rfl 1 rfl ?_
  refine z_case (fun e0 => ?_) (fun e0 => ?_)
  · refine z_tableIn (pc := 1) (tgt := 56) d_SF_about_1 e0 (by decide) (by decide) rfl (by decide) ?_
    refine z_aload_n (pc := 56) d_SF_about_56 rfl 0 rfl ?_
    refine z_getR (pc := 57) fl_SF_19 d_SF_about_57 (fun p1 => ?_)
    refine z_getR (pc := 60) fl_SF_98 d_SF_about_60 (fun p2 => ?_)
    refine z_getI (pc := 63) fl_SF_136 d_SF_about_63 (fun v3 => ?_)
    exact z_xret (pc := 66) d_SF_about_66 rfl
  · refine z_case (fun e1 => ?_) (fun e1 => ?_)
    · refine z_tableIn (pc := 1) (tgt := 67) d_SF_about_1 e1 (by decide) (by decide) rfl (by decide) ?_
      refine z_aload_n (pc := 67) d_SF_about_67 rfl 0 rfl ?_
      refine z_getR (pc := 68) fl_SF_19 d_SF_about_68 (fun p4 => ?_)
      refine z_getR (pc := 71) fl_SF_107 d_SF_about_71 (fun p5 => ?_)
      refine z_getI (pc := 74) fl_SF_139 d_SF_about_74 (fun v6 => ?_)
      exact z_xret (pc := 77) d_SF_about_77 rfl
    · refine z_case (fun e2 => ?_) (fun e2 => ?_)
      · refine z_tableIn (pc := 1) (tgt := 78) d_SF_about_1 e2 (by decide) (by decide) rfl (by decide) ?_
        refine z_aload_n (pc := 78) d_SF_about_78 rfl 0 rfl ?_
        refine z_getR (pc := 79) fl_SF_19 d_SF_about_79 (fun p7 => ?_)
        refine z_getR (pc := 82) fl_SF_116 d_SF_about_82 (fun p8 => ?_)
        refine z_getI (pc := 85) fl_SF_140 d_SF_about_85 (fun v9 => ?_)
        exact z_xret (pc := 88) d_SF_about_88 rfl
      · refine z_case (fun e3 => ?_) (fun e3 => ?_)
        · refine z_tableIn (pc := 1) (tgt := 89) d_SF_about_1 e3 (by decide) (by decide) rfl (by decide) ?_
          refine z_aload_n (pc := 89) d_SF_about_89 rfl 0 rfl ?_
          refine z_getR (pc := 90) fl_SF_19 d_SF_about_90 (fun p10 => ?_)
          refine z_getI (pc := 93) fl_SF_141 d_SF_about_93 (fun v11 => ?_)
          exact z_xret (pc := 96) d_SF_about_96 rfl
        · refine z_case (fun e4 => ?_) (fun e4 => ?_)
          · refine z_tableIn (pc := 1) (tgt := 97) d_SF_about_1 e4 (by decide) (by decide) rfl (by decide) ?_
            refine z_aload_n (pc := 97) d_SF_about_97 rfl 0 rfl ?_
            refine z_getR (pc := 98) fl_SF_19 d_SF_about_98 (fun p12 => ?_)
            refine z_getR (pc := 101) fl_SF_144 d_SF_about_101 (fun p13 => ?_)
            refine z_getI (pc := 104) fl_SF_148 d_SF_about_104 (fun v14 => ?_)
            exact z_xret (pc := 107) d_SF_about_107 rfl
          · refine z_case (fun e5 => ?_) (fun e5 => ?_)
            · refine z_tableIn (pc := 1) (tgt := 108) d_SF_about_1 e5 (by decide) (by decide) rfl (by decide) ?_
              refine z_aload_n (pc := 108) d_SF_about_108 rfl 0 rfl ?_
              refine z_getR (pc := 109) fl_SF_19 d_SF_about_109 (fun p15 => ?_)
              refine z_getI (pc := 112) fl_SF_151 d_SF_about_112 (fun v16 => ?_)
              exact z_xret (pc := 115) d_SF_about_115 rfl
            · refine z_case (fun e6 => ?_) (fun e6 => ?_)
              · refine z_tableIn (pc := 1) (tgt := 116) d_SF_about_1 e6 (by decide) (by decide) rfl (by decide) ?_
                refine z_aload_n (pc := 116) d_SF_about_116 rfl 0 rfl ?_
                refine z_getR (pc := 117) fl_SF_19 d_SF_about_117 (fun p17 => ?_)
                refine z_getR (pc := 120) fl_SF_154 d_SF_about_120 (fun p18 => ?_)
                refine z_getI (pc := 123) fl_SF_158 d_SF_about_123 (fun v19 => ?_)
                exact z_xret (pc := 126) d_SF_about_126 rfl
              · refine z_case (fun e7 => ?_) (fun e7 => ?_)
                · refine z_tableIn (pc := 1) (tgt := 127) d_SF_about_1 e7 (by decide) (by decide) rfl (by decide) ?_
                  refine z_aload_n (pc := 127) d_SF_about_127 rfl 0 rfl ?_
                  refine z_getR (pc := 128) fl_SF_19 d_SF_about_128 (fun p20 => ?_)
                  refine z_getR (pc := 131) fl_SF_154 d_SF_about_131 (fun p21 => ?_)
                  refine z_getI (pc := 134) fl_SF_163 d_SF_about_134 (fun v22 => ?_)
                  exact z_xret (pc := 137) d_SF_about_137 rfl
                · refine z_case (fun e8 => ?_) (fun e8 => ?_)
                  · refine z_tableIn (pc := 1) (tgt := 138) d_SF_about_1 e8 (by decide) (by decide) rfl (by decide) ?_
                    refine z_aload_n (pc := 138) d_SF_about_138 rfl 0 rfl ?_
                    refine z_getR (pc := 139) fl_SF_19 d_SF_about_139 (fun p23 => ?_)
                    refine z_getR (pc := 142) fl_SF_154 d_SF_about_142 (fun p24 => ?_)
                    refine z_getI (pc := 145) fl_SF_166 d_SF_about_145 (fun v25 => ?_)
                    exact z_xret (pc := 148) d_SF_about_148 rfl
                  · refine z_case (fun e9 => ?_) (fun e9 => ?_)
                    · refine z_tableIn (pc := 1) (tgt := 149) d_SF_about_1 e9 (by decide) (by decide) rfl (by decide) ?_
                      refine z_aload_n (pc := 149) d_SF_about_149 rfl 0 rfl ?_
                      refine z_getR (pc := 150) fl_SF_19 d_SF_about_150 (fun p26 => ?_)
                      refine z_getR (pc := 153) fl_SF_107 d_SF_about_153 (fun p27 => ?_)
                      refine z_getI (pc := 156) fl_SF_169 d_SF_about_156 (fun v28 => ?_)
                      exact z_xret (pc := 159) d_SF_about_159 rfl
                    · refine z_tableOut (pc := 1) (tgt := 160) d_SF_about_1 (by have g0 := z_neI e0 (n := 0) rfl; have g1 := z_neI e1 (n := 1) rfl; have g2 := z_neI e2 (n := 2) rfl; have g3 := z_neI e3 (n := 3) rfl; have g4 := z_neI e4 (n := 4) rfl; have g5 := z_neI e5 (n := 5) rfl; have g6 := z_neI e6 (n := 6) rfl; have g7 := z_neI e7 (n := 7) rfl; have g8 := z_neI e8 (n := 8) rfl; have g9 := z_neI e9 (n := 9) rfl; omega) (by decide) ?_
                      exact z_throw (pc := 160) th_SF_44_172_48 rfl (by decide) (Nat.le_of_ble_eq_true rfl) (by decide) (by decide) d_SF_about_160 d_SF_about_163 d_SF_about_164 d_SF_about_166 d_SF_about_169
theorem d_SF_sirenOf_0 : decode Y_SF_sirenOf.2.1 0 = .ok (.aload_n 0, 1) := by decide +kernel
theorem d_SF_sirenOf_1 : decode Y_SF_sirenOf.2.1 1 = .ok (.getfield 19, 3) := by decide +kernel
theorem d_SF_sirenOf_4 : decode Y_SF_sirenOf.2.1 4 = .ok (.getfield 98, 3) := by decide +kernel
theorem d_SF_sirenOf_7 : decode Y_SF_sirenOf.2.1 7 = .ok (.astore_n 3, 1) := by decide +kernel
theorem d_SF_sirenOf_8 : decode Y_SF_sirenOf.2.1 8 = .ok (.aload_n 3, 1) := by decide +kernel
theorem d_SF_sirenOf_9 : decode Y_SF_sirenOf.2.1 9 = .ok (.iload_n 1, 1) := by decide +kernel
theorem d_SF_sirenOf_10 : decode Y_SF_sirenOf.2.1 10 = .ok (.invokevirtual 174, 3) := by decide +kernel
theorem d_SF_sirenOf_13 : decode Y_SF_sirenOf.2.1 13 = .ok (.ifCond .ne (13), 3) := by decide +kernel
theorem d_SF_sirenOf_16 : decode Y_SF_sirenOf.2.1 16 = .ok (.new 178, 3) := by decide +kernel
theorem d_SF_sirenOf_19 : decode Y_SF_sirenOf.2.1 19 = .ok (.dup, 1) := by decide +kernel
theorem d_SF_sirenOf_20 : decode Y_SF_sirenOf.2.1 20 = .ok (.ldc 180, 2) := by decide +kernel
theorem d_SF_sirenOf_22 : decode Y_SF_sirenOf.2.1 22 = .ok (.invokespecial 182, 3) := by decide +kernel
theorem d_SF_sirenOf_25 : decode Y_SF_sirenOf.2.1 25 = .ok (.athrow, 1) := by decide +kernel
theorem d_SF_sirenOf_26 : decode Y_SF_sirenOf.2.1 26 = .ok (.iload_n 2, 1) := by decide +kernel
theorem d_SF_sirenOf_27 : decode Y_SF_sirenOf.2.1 27 = .ok (.tableswitch (147) 0 9 #[(53), (60), (67), (74), (81), (88), (103), (110), (116), (122)], 53) := by decide +kernel
theorem d_SF_sirenOf_80 : decode Y_SF_sirenOf.2.1 80 = .ok (.aload_n 3, 1) := by decide +kernel
theorem d_SF_sirenOf_81 : decode Y_SF_sirenOf.2.1 81 = .ok (.getfield 183, 3) := by decide +kernel
theorem d_SF_sirenOf_84 : decode Y_SF_sirenOf.2.1 84 = .ok (.iload_n 1, 1) := by decide +kernel
theorem d_SF_sirenOf_85 : decode Y_SF_sirenOf.2.1 85 = .ok (.iaload, 1) := by decide +kernel
theorem d_SF_sirenOf_86 : decode Y_SF_sirenOf.2.1 86 = .ok (.ireturn, 1) := by decide +kernel
theorem d_SF_sirenOf_87 : decode Y_SF_sirenOf.2.1 87 = .ok (.aload_n 3, 1) := by decide +kernel
theorem d_SF_sirenOf_88 : decode Y_SF_sirenOf.2.1 88 = .ok (.getfield 186, 3) := by decide +kernel
theorem d_SF_sirenOf_91 : decode Y_SF_sirenOf.2.1 91 = .ok (.iload_n 1, 1) := by decide +kernel
theorem d_SF_sirenOf_92 : decode Y_SF_sirenOf.2.1 92 = .ok (.iaload, 1) := by decide +kernel
theorem d_SF_sirenOf_93 : decode Y_SF_sirenOf.2.1 93 = .ok (.ireturn, 1) := by decide +kernel
theorem d_SF_sirenOf_94 : decode Y_SF_sirenOf.2.1 94 = .ok (.aload_n 3, 1) := by decide +kernel
theorem d_SF_sirenOf_95 : decode Y_SF_sirenOf.2.1 95 = .ok (.getfield 189, 3) := by decide +kernel
theorem d_SF_sirenOf_98 : decode Y_SF_sirenOf.2.1 98 = .ok (.iload_n 1, 1) := by decide +kernel
theorem d_SF_sirenOf_99 : decode Y_SF_sirenOf.2.1 99 = .ok (.iaload, 1) := by decide +kernel
theorem d_SF_sirenOf_100 : decode Y_SF_sirenOf.2.1 100 = .ok (.ireturn, 1) := by decide +kernel
theorem d_SF_sirenOf_101 : decode Y_SF_sirenOf.2.1 101 = .ok (.aload_n 3, 1) := by decide +kernel
theorem d_SF_sirenOf_102 : decode Y_SF_sirenOf.2.1 102 = .ok (.getfield 192, 3) := by decide +kernel
theorem d_SF_sirenOf_105 : decode Y_SF_sirenOf.2.1 105 = .ok (.iload_n 1, 1) := by decide +kernel
theorem d_SF_sirenOf_106 : decode Y_SF_sirenOf.2.1 106 = .ok (.iaload, 1) := by decide +kernel
theorem d_SF_sirenOf_107 : decode Y_SF_sirenOf.2.1 107 = .ok (.ireturn, 1) := by decide +kernel
theorem d_SF_sirenOf_108 : decode Y_SF_sirenOf.2.1 108 = .ok (.aload_n 3, 1) := by decide +kernel
theorem d_SF_sirenOf_109 : decode Y_SF_sirenOf.2.1 109 = .ok (.getfield 195, 3) := by decide +kernel
theorem d_SF_sirenOf_112 : decode Y_SF_sirenOf.2.1 112 = .ok (.iload_n 1, 1) := by decide +kernel
theorem d_SF_sirenOf_113 : decode Y_SF_sirenOf.2.1 113 = .ok (.iaload, 1) := by decide +kernel
theorem d_SF_sirenOf_114 : decode Y_SF_sirenOf.2.1 114 = .ok (.ireturn, 1) := by decide +kernel
theorem d_SF_sirenOf_115 : decode Y_SF_sirenOf.2.1 115 = .ok (.aload_n 3, 1) := by decide +kernel
theorem d_SF_sirenOf_116 : decode Y_SF_sirenOf.2.1 116 = .ok (.getfield 198, 3) := by decide +kernel
theorem d_SF_sirenOf_119 : decode Y_SF_sirenOf.2.1 119 = .ok (.iload_n 1, 1) := by decide +kernel
theorem d_SF_sirenOf_120 : decode Y_SF_sirenOf.2.1 120 = .ok (.baload, 1) := by decide +kernel
theorem d_SF_sirenOf_121 : decode Y_SF_sirenOf.2.1 121 = .ok (.ifCond .eq (7), 3) := by decide +kernel
theorem d_SF_sirenOf_124 : decode Y_SF_sirenOf.2.1 124 = .ok (.iconst (1), 1) := by decide +kernel
theorem d_SF_sirenOf_125 : decode Y_SF_sirenOf.2.1 125 = .ok (.goto (4), 3) := by decide +kernel
theorem d_SF_sirenOf_128 : decode Y_SF_sirenOf.2.1 128 = .ok (.iconst (0), 1) := by decide +kernel
theorem d_SF_sirenOf_129 : decode Y_SF_sirenOf.2.1 129 = .ok (.ireturn, 1) := by decide +kernel
theorem d_SF_sirenOf_130 : decode Y_SF_sirenOf.2.1 130 = .ok (.aload_n 3, 1) := by decide +kernel
theorem d_SF_sirenOf_131 : decode Y_SF_sirenOf.2.1 131 = .ok (.getfield 201, 3) := by decide +kernel
theorem d_SF_sirenOf_134 : decode Y_SF_sirenOf.2.1 134 = .ok (.iload_n 1, 1) := by decide +kernel
theorem d_SF_sirenOf_135 : decode Y_SF_sirenOf.2.1 135 = .ok (.iaload, 1) := by decide +kernel
theorem d_SF_sirenOf_136 : decode Y_SF_sirenOf.2.1 136 = .ok (.ireturn, 1) := by decide +kernel
theorem d_SF_sirenOf_137 : decode Y_SF_sirenOf.2.1 137 = .ok (.aload_n 3, 1) := by decide +kernel
theorem d_SF_sirenOf_138 : decode Y_SF_sirenOf.2.1 138 = .ok (.iload_n 1, 1) := by decide +kernel
theorem d_SF_sirenOf_139 : decode Y_SF_sirenOf.2.1 139 = .ok (.invokevirtual 204, 3) := by decide +kernel
theorem d_SF_sirenOf_142 : decode Y_SF_sirenOf.2.1 142 = .ok (.ireturn, 1) := by decide +kernel
theorem d_SF_sirenOf_143 : decode Y_SF_sirenOf.2.1 143 = .ok (.aload_n 3, 1) := by decide +kernel
theorem d_SF_sirenOf_144 : decode Y_SF_sirenOf.2.1 144 = .ok (.iload_n 1, 1) := by decide +kernel
theorem d_SF_sirenOf_145 : decode Y_SF_sirenOf.2.1 145 = .ok (.invokevirtual 208, 3) := by decide +kernel
theorem d_SF_sirenOf_148 : decode Y_SF_sirenOf.2.1 148 = .ok (.ireturn, 1) := by decide +kernel
theorem d_SF_sirenOf_149 : decode Y_SF_sirenOf.2.1 149 = .ok (.aload_n 3, 1) := by decide +kernel
theorem d_SF_sirenOf_150 : decode Y_SF_sirenOf.2.1 150 = .ok (.getfield 192, 3) := by decide +kernel
theorem d_SF_sirenOf_153 : decode Y_SF_sirenOf.2.1 153 = .ok (.iload_n 1, 1) := by decide +kernel
theorem d_SF_sirenOf_154 : decode Y_SF_sirenOf.2.1 154 = .ok (.iaload, 1) := by decide +kernel
theorem d_SF_sirenOf_155 : decode Y_SF_sirenOf.2.1 155 = .ok (.invokestatic 211, 3) := by decide +kernel
theorem d_SF_sirenOf_158 : decode Y_SF_sirenOf.2.1 158 = .ok (.aload_n 0, 1) := by decide +kernel
theorem d_SF_sirenOf_159 : decode Y_SF_sirenOf.2.1 159 = .ok (.getfield 19, 3) := by decide +kernel
theorem d_SF_sirenOf_162 : decode Y_SF_sirenOf.2.1 162 = .ok (.getfield 129, 3) := by decide +kernel
theorem d_SF_sirenOf_165 : decode Y_SF_sirenOf.2.1 165 = .ok (.if_icmp .le (7), 3) := by decide +kernel
theorem d_SF_sirenOf_168 : decode Y_SF_sirenOf.2.1 168 = .ok (.iconst (1), 1) := by decide +kernel
theorem d_SF_sirenOf_169 : decode Y_SF_sirenOf.2.1 169 = .ok (.goto (4), 3) := by decide +kernel
theorem d_SF_sirenOf_172 : decode Y_SF_sirenOf.2.1 172 = .ok (.iconst (0), 1) := by decide +kernel
theorem d_SF_sirenOf_173 : decode Y_SF_sirenOf.2.1 173 = .ok (.ireturn, 1) := by decide +kernel
theorem d_SF_sirenOf_174 : decode Y_SF_sirenOf.2.1 174 = .ok (.new 44, 3) := by decide +kernel
theorem d_SF_sirenOf_177 : decode Y_SF_sirenOf.2.1 177 = .ok (.dup, 1) := by decide +kernel
theorem d_SF_sirenOf_178 : decode Y_SF_sirenOf.2.1 178 = .ok (.ldc 172, 2) := by decide +kernel
theorem d_SF_sirenOf_180 : decode Y_SF_sirenOf.2.1 180 = .ok (.invokespecial 48, 3) := by decide +kernel
theorem d_SF_sirenOf_183 : decode Y_SF_sirenOf.2.1 183 = .ok (.athrow, 1) := by decide +kernel
def f_SF_sirenOf (w : zW) (D : zD) (a : Nat) (x1 : Int32) (x2 : Int32) : Option ((Int32 ⊕ String) × zD) := zref w 0 1 a (fun p1 => zref w 3 0 p1 (fun p2 => zobj w 6 p2 (zci (f_Sirens_has w D p2 x1) (fun v3 D4 => (if v3 = 0 then some (.inr "java/lang/IndexOutOfBoundsException", D4) else (if x2 = (0 : Int32) then zref w 6 0 p2 (fun p5 => zald w D4 0 p5 x1 (fun v6 => some (.inl v6, D4))) else (if x2 = (1 : Int32) then zref w 6 1 p2 (fun p7 => zald w D4 0 p7 x1 (fun v8 => some (.inl v8, D4))) else (if x2 = (2 : Int32) then zref w 6 2 p2 (fun p9 => zald w D4 0 p9 x1 (fun v10 => some (.inl v10, D4))) else (if x2 = (3 : Int32) then zref w 6 3 p2 (fun p11 => zald w D4 0 p11 x1 (fun v12 => some (.inl v12, D4))) else (if x2 = (4 : Int32) then zref w 6 4 p2 (fun p13 => zald w D4 0 p13 x1 (fun v14 => some (.inl v14, D4))) else (if x2 = (5 : Int32) then zjp (fun (s0 : Int32) (D15 : zD) => some (.inl s0, D15)) (fun j129 => zref w 6 6 p2 (fun p16 => zald w D4 2 p16 x1 (fun v17 => (if v17 = 0 then j129 (0 : Int32) D4 else j129 (1 : Int32) D4)))) else (if x2 = (6 : Int32) then zref w 6 5 p2 (fun p18 => zald w D4 0 p18 x1 (fun v19 => some (.inl v19, D4))) else (if x2 = (7 : Int32) then zobj w 6 p2 (zci (f_Sirens_placeX w D4 p2 x1) (fun v20 D21 => some (.inl v20, D21))) else (if x2 = (8 : Int32) then zobj w 6 p2 (zci (f_Sirens_placeY w D4 p2 x1) (fun v22 D23 => some (.inl v22, D23))) else (if x2 = (9 : Int32) then zjp (fun (s0 : Int32) (D24 : zD) => some (.inl s0, D24)) (fun j173 => zref w 6 3 p2 (fun p25 => zald w D4 0 p25 x1 (fun v26 => zci (f_Math_abs w D4 v26) (fun v27 D28 => zref w 0 1 a (fun p29 => zfld w D28 3 7 p29 (fun v30 => (if v27 ≤ v30 then j173 (0 : Int32) D28 else j173 (1 : Int32) D28))))))) else some (.inr "java/lang/IllegalArgumentException", D4))))))))))))))))
set_option maxHeartbeats 4000000 in
set_option maxRecDepth 100000 in
theorem c_SF_sirenOf (z : zT) (D : zD) (a : Nat) (x1 : Int32) (x2 : Int32) : zMX Y_SF_sirenOf 8 1 6 (zqX z) (f_SF_sirenOf z.2 D a x1 x2) [.ref a, .int x1, .int x2] z D := by
  refine zMX_of (plainFor_of_name (by decide +kernel)) rfl (Nat.le_of_ble_eq_true rfl) (fun K => ?_)
  unfold f_SF_sirenOf
  refine z_aload_n (pc := 0) d_SF_sirenOf_0 rfl 0 rfl ?_
  refine z_getR (pc := 1) fl_SF_19 d_SF_sirenOf_1 (fun p1 => ?_)
  refine z_getR (pc := 4) fl_SF_98 d_SF_sirenOf_4 (fun p2 => ?_)
  refine z_astore_n (pc := 7) d_SF_sirenOf_7 rfl (by decide) (lv' := [(3, .ref p2), (0, .ref a), (1, .int x1), (2, .int x2)]) rfl ?_
  refine z_aload_n (pc := 8) d_SF_sirenOf_8 rfl 0 rfl ?_
  refine z_iload_n (pc := 9) d_SF_sirenOf_9 rfl 2 rfl ?_
  refine z_callVi (pc := 10) [.int x1] lkV_SF_174 rfl (c_Sirens_has z D p2 x1) (by decide) rfl rfl (Nat.le_of_ble_eq_true rfl) d_SF_sirenOf_10 (fun v3 D4 => ?_)
  refine z_if_ne (pc := 13) (tgt := 26) d_SF_sirenOf_13 (by decide) ?_ ?_
  · exact z_throw (pc := 16) th_SF_178_180_182 rfl (by decide) (Nat.le_of_ble_eq_true rfl) (by decide) (by decide) d_SF_sirenOf_16 d_SF_sirenOf_19 d_SF_sirenOf_20 d_SF_sirenOf_22 d_SF_sirenOf_25
  · refine z_iload_n (pc := 26) d_SF_sirenOf_26 rfl 3 rfl ?_
    refine z_case (fun e0 => ?_) (fun e0 => ?_)
    · refine z_tableIn (pc := 27) (tgt := 80) d_SF_sirenOf_27 e0 (by decide) (by decide) rfl (by decide) ?_
      refine z_aload_n (pc := 80) d_SF_sirenOf_80 rfl 0 rfl ?_
      refine z_getR (pc := 81) fl_SF_183 d_SF_sirenOf_81 (fun p5 => ?_)
      refine z_iload_n (pc := 84) d_SF_sirenOf_84 rfl 2 rfl ?_
      refine z_iaload (pc := 85) d_SF_sirenOf_85 (fun v6 => ?_)
      exact z_xret (pc := 86) d_SF_sirenOf_86 rfl
    · refine z_case (fun e1 => ?_) (fun e1 => ?_)
      · refine z_tableIn (pc := 27) (tgt := 87) d_SF_sirenOf_27 e1 (by decide) (by decide) rfl (by decide) ?_
        refine z_aload_n (pc := 87) d_SF_sirenOf_87 rfl 0 rfl ?_
        refine z_getR (pc := 88) fl_SF_186 d_SF_sirenOf_88 (fun p7 => ?_)
        refine z_iload_n (pc := 91) d_SF_sirenOf_91 rfl 2 rfl ?_
        refine z_iaload (pc := 92) d_SF_sirenOf_92 (fun v8 => ?_)
        exact z_xret (pc := 93) d_SF_sirenOf_93 rfl
      · refine z_case (fun e2 => ?_) (fun e2 => ?_)
        · refine z_tableIn (pc := 27) (tgt := 94) d_SF_sirenOf_27 e2 (by decide) (by decide) rfl (by decide) ?_
          refine z_aload_n (pc := 94) d_SF_sirenOf_94 rfl 0 rfl ?_
          refine z_getR (pc := 95) fl_SF_189 d_SF_sirenOf_95 (fun p9 => ?_)
          refine z_iload_n (pc := 98) d_SF_sirenOf_98 rfl 2 rfl ?_
          refine z_iaload (pc := 99) d_SF_sirenOf_99 (fun v10 => ?_)
          exact z_xret (pc := 100) d_SF_sirenOf_100 rfl
        · refine z_case (fun e3 => ?_) (fun e3 => ?_)
          · refine z_tableIn (pc := 27) (tgt := 101) d_SF_sirenOf_27 e3 (by decide) (by decide) rfl (by decide) ?_
            refine z_aload_n (pc := 101) d_SF_sirenOf_101 rfl 0 rfl ?_
            refine z_getR (pc := 102) fl_SF_192 d_SF_sirenOf_102 (fun p11 => ?_)
            refine z_iload_n (pc := 105) d_SF_sirenOf_105 rfl 2 rfl ?_
            refine z_iaload (pc := 106) d_SF_sirenOf_106 (fun v12 => ?_)
            exact z_xret (pc := 107) d_SF_sirenOf_107 rfl
          · refine z_case (fun e4 => ?_) (fun e4 => ?_)
            · refine z_tableIn (pc := 27) (tgt := 108) d_SF_sirenOf_27 e4 (by decide) (by decide) rfl (by decide) ?_
              refine z_aload_n (pc := 108) d_SF_sirenOf_108 rfl 0 rfl ?_
              refine z_getR (pc := 109) fl_SF_195 d_SF_sirenOf_109 (fun p13 => ?_)
              refine z_iload_n (pc := 112) d_SF_sirenOf_112 rfl 2 rfl ?_
              refine z_iaload (pc := 113) d_SF_sirenOf_113 (fun v14 => ?_)
              exact z_xret (pc := 114) d_SF_sirenOf_114 rfl
            · refine z_case (fun e5 => ?_) (fun e5 => ?_)
              · refine z_tableIn (pc := 27) (tgt := 115) d_SF_sirenOf_27 e5 (by decide) (by decide) rfl (by decide) ?_
                refine z_jp (fun j129 : Int32 → zD → Option ((Int32 ⊕ String) × zD) => ∀ (s0 : Int32) (D15 : zD), zGO K Y_SF_sirenOf 8 1 6 (zqX z) (j129 s0 D15) 1 6 z D15 129 [] [.int s0]) (fun s0 D15 => ?_) (fun j129 h129 => ?_)
                · exact z_xret (pc := 129) d_SF_sirenOf_129 rfl
                · refine z_aload_n (pc := 115) d_SF_sirenOf_115 rfl 0 rfl ?_
                  refine z_getR (pc := 116) fl_SF_198 d_SF_sirenOf_116 (fun p16 => ?_)
                  refine z_iload_n (pc := 119) d_SF_sirenOf_119 rfl 2 rfl ?_
                  refine z_baload (pc := 120) d_SF_sirenOf_120 (fun v17 => ?_)
                  refine z_if_eq (pc := 121) (tgt := 128) d_SF_sirenOf_121 (by decide) ?_ ?_
                  · refine z_iconst (pc := 128) d_SF_sirenOf_128 ki_0 ?_
                    exact z_sub [] rfl (h129 (0 : Int32) D4)
                  · refine z_iconst (pc := 124) d_SF_sirenOf_124 ki_1 ?_
                    refine z_goto (pc := 125) (tgt := 129) d_SF_sirenOf_125 (by decide) ?_
                    exact z_sub [] rfl (h129 (1 : Int32) D4)
              · refine z_case (fun e6 => ?_) (fun e6 => ?_)
                · refine z_tableIn (pc := 27) (tgt := 130) d_SF_sirenOf_27 e6 (by decide) (by decide) rfl (by decide) ?_
                  refine z_aload_n (pc := 130) d_SF_sirenOf_130 rfl 0 rfl ?_
                  refine z_getR (pc := 131) fl_SF_201 d_SF_sirenOf_131 (fun p18 => ?_)
                  refine z_iload_n (pc := 134) d_SF_sirenOf_134 rfl 2 rfl ?_
                  refine z_iaload (pc := 135) d_SF_sirenOf_135 (fun v19 => ?_)
                  exact z_xret (pc := 136) d_SF_sirenOf_136 rfl
                · refine z_case (fun e7 => ?_) (fun e7 => ?_)
                  · refine z_tableIn (pc := 27) (tgt := 137) d_SF_sirenOf_27 e7 (by decide) (by decide) rfl (by decide) ?_
                    refine z_aload_n (pc := 137) d_SF_sirenOf_137 rfl 0 rfl ?_
                    refine z_iload_n (pc := 138) d_SF_sirenOf_138 rfl 2 rfl ?_
                    refine z_callVi (pc := 139) [.int x1] lkV_SF_204 rfl (c_Sirens_placeX z D4 p2 x1) (by decide) rfl rfl (Nat.le_of_ble_eq_true rfl) d_SF_sirenOf_139 (fun v20 D21 => ?_)
                    exact z_xret (pc := 142) d_SF_sirenOf_142 rfl
                  · refine z_case (fun e8 => ?_) (fun e8 => ?_)
                    · refine z_tableIn (pc := 27) (tgt := 143) d_SF_sirenOf_27 e8 (by decide) (by decide) rfl (by decide) ?_
                      refine z_aload_n (pc := 143) d_SF_sirenOf_143 rfl 0 rfl ?_
                      refine z_iload_n (pc := 144) d_SF_sirenOf_144 rfl 2 rfl ?_
                      refine z_callVi (pc := 145) [.int x1] lkV_SF_208 rfl (c_Sirens_placeY z D4 p2 x1) (by decide) rfl rfl (Nat.le_of_ble_eq_true rfl) d_SF_sirenOf_145 (fun v22 D23 => ?_)
                      exact z_xret (pc := 148) d_SF_sirenOf_148 rfl
                    · refine z_case (fun e9 => ?_) (fun e9 => ?_)
                      · refine z_tableIn (pc := 27) (tgt := 149) d_SF_sirenOf_27 e9 (by decide) (by decide) rfl (by decide) ?_
                        refine z_jp (fun j173 : Int32 → zD → Option ((Int32 ⊕ String) × zD) => ∀ (s0 : Int32) (D24 : zD), zGO K Y_SF_sirenOf 8 1 6 (zqX z) (j173 s0 D24) 1 6 z D24 173 [] [.int s0]) (fun s0 D24 => ?_) (fun j173 h173 => ?_)
                        · exact z_xret (pc := 173) d_SF_sirenOf_173 rfl
                        · refine z_aload_n (pc := 149) d_SF_sirenOf_149 rfl 0 rfl ?_
                          refine z_getR (pc := 150) fl_SF_192 d_SF_sirenOf_150 (fun p25 => ?_)
                          refine z_iload_n (pc := 153) d_SF_sirenOf_153 rfl 2 rfl ?_
                          refine z_iaload (pc := 154) d_SF_sirenOf_154 (fun v26 => ?_)
                          refine z_callSi (pc := 155) [.int v26] lkS_SF_211 (c_Math_abs z D4 v26) (by decide) rfl rfl (Nat.le_of_ble_eq_true rfl) d_SF_sirenOf_155 (fun v27 D28 => ?_)
                          refine z_aload_n (pc := 158) d_SF_sirenOf_158 rfl 1 rfl ?_
                          refine z_getR (pc := 159) fl_SF_19 d_SF_sirenOf_159 (fun p29 => ?_)
                          refine z_getI (pc := 162) fl_SF_129 d_SF_sirenOf_162 (fun v30 => ?_)
                          refine z_icmp_le (pc := 165) (tgt := 172) d_SF_sirenOf_165 (by decide) ?_ ?_
                          · refine z_iconst (pc := 172) d_SF_sirenOf_172 ki_0 ?_
                            exact z_sub [] rfl (h173 (0 : Int32) D28)
                          · refine z_iconst (pc := 168) d_SF_sirenOf_168 ki_1 ?_
                            refine z_goto (pc := 169) (tgt := 173) d_SF_sirenOf_169 (by decide) ?_
                            exact z_sub [] rfl (h173 (1 : Int32) D28)
                      · refine z_tableOut (pc := 27) (tgt := 174) d_SF_sirenOf_27 (by have g0 := z_neI e0 (n := 0) rfl; have g1 := z_neI e1 (n := 1) rfl; have g2 := z_neI e2 (n := 2) rfl; have g3 := z_neI e3 (n := 3) rfl; have g4 := z_neI e4 (n := 4) rfl; have g5 := z_neI e5 (n := 5) rfl; have g6 := z_neI e6 (n := 6) rfl; have g7 := z_neI e7 (n := 7) rfl; have g8 := z_neI e8 (n := 8) rfl; have g9 := z_neI e9 (n := 9) rfl; omega) (by decide) ?_
                        exact z_throw (pc := 174) th_SF_44_172_48 rfl (by decide) (Nat.le_of_ble_eq_true rfl) (by decide) (by decide) d_SF_sirenOf_174 d_SF_sirenOf_177 d_SF_sirenOf_178 d_SF_sirenOf_180 d_SF_sirenOf_183
theorem d_SF_hearerOf_0 : decode Y_SF_hearerOf.2.1 0 = .ok (.aload_n 0, 1) := by decide +kernel
theorem d_SF_hearerOf_1 : decode Y_SF_hearerOf.2.1 1 = .ok (.getfield 19, 3) := by decide +kernel
theorem d_SF_hearerOf_4 : decode Y_SF_hearerOf.2.1 4 = .ok (.getfield 107, 3) := by decide +kernel
theorem d_SF_hearerOf_7 : decode Y_SF_hearerOf.2.1 7 = .ok (.astore_n 3, 1) := by decide +kernel
theorem d_SF_hearerOf_8 : decode Y_SF_hearerOf.2.1 8 = .ok (.aload_n 3, 1) := by decide +kernel
theorem d_SF_hearerOf_9 : decode Y_SF_hearerOf.2.1 9 = .ok (.iload_n 1, 1) := by decide +kernel
theorem d_SF_hearerOf_10 : decode Y_SF_hearerOf.2.1 10 = .ok (.invokevirtual 216, 3) := by decide +kernel
theorem d_SF_hearerOf_13 : decode Y_SF_hearerOf.2.1 13 = .ok (.ifCond .ne (13), 3) := by decide +kernel
theorem d_SF_hearerOf_16 : decode Y_SF_hearerOf.2.1 16 = .ok (.new 178, 3) := by decide +kernel
theorem d_SF_hearerOf_19 : decode Y_SF_hearerOf.2.1 19 = .ok (.dup, 1) := by decide +kernel
theorem d_SF_hearerOf_20 : decode Y_SF_hearerOf.2.1 20 = .ok (.ldc 217, 2) := by decide +kernel
theorem d_SF_hearerOf_22 : decode Y_SF_hearerOf.2.1 22 = .ok (.invokespecial 182, 3) := by decide +kernel
theorem d_SF_hearerOf_25 : decode Y_SF_hearerOf.2.1 25 = .ok (.athrow, 1) := by decide +kernel
theorem d_SF_hearerOf_26 : decode Y_SF_hearerOf.2.1 26 = .ok (.iload_n 2, 1) := by decide +kernel
theorem d_SF_hearerOf_27 : decode Y_SF_hearerOf.2.1 27 = .ok (.tableswitch (95) 0 5 #[(37), (44), (51), (58), (65), (72)], 37) := by decide +kernel
theorem d_SF_hearerOf_64 : decode Y_SF_hearerOf.2.1 64 = .ok (.aload_n 3, 1) := by decide +kernel
theorem d_SF_hearerOf_65 : decode Y_SF_hearerOf.2.1 65 = .ok (.getfield 219, 3) := by decide +kernel
theorem d_SF_hearerOf_68 : decode Y_SF_hearerOf.2.1 68 = .ok (.iload_n 1, 1) := by decide +kernel
theorem d_SF_hearerOf_69 : decode Y_SF_hearerOf.2.1 69 = .ok (.iaload, 1) := by decide +kernel
theorem d_SF_hearerOf_70 : decode Y_SF_hearerOf.2.1 70 = .ok (.ireturn, 1) := by decide +kernel
theorem d_SF_hearerOf_71 : decode Y_SF_hearerOf.2.1 71 = .ok (.aload_n 3, 1) := by decide +kernel
theorem d_SF_hearerOf_72 : decode Y_SF_hearerOf.2.1 72 = .ok (.getfield 220, 3) := by decide +kernel
theorem d_SF_hearerOf_75 : decode Y_SF_hearerOf.2.1 75 = .ok (.iload_n 1, 1) := by decide +kernel
theorem d_SF_hearerOf_76 : decode Y_SF_hearerOf.2.1 76 = .ok (.iaload, 1) := by decide +kernel
theorem d_SF_hearerOf_77 : decode Y_SF_hearerOf.2.1 77 = .ok (.ireturn, 1) := by decide +kernel
theorem d_SF_hearerOf_78 : decode Y_SF_hearerOf.2.1 78 = .ok (.aload_n 3, 1) := by decide +kernel
theorem d_SF_hearerOf_79 : decode Y_SF_hearerOf.2.1 79 = .ok (.getfield 221, 3) := by decide +kernel
theorem d_SF_hearerOf_82 : decode Y_SF_hearerOf.2.1 82 = .ok (.iload_n 1, 1) := by decide +kernel
theorem d_SF_hearerOf_83 : decode Y_SF_hearerOf.2.1 83 = .ok (.iaload, 1) := by decide +kernel
theorem d_SF_hearerOf_84 : decode Y_SF_hearerOf.2.1 84 = .ok (.ireturn, 1) := by decide +kernel
theorem d_SF_hearerOf_85 : decode Y_SF_hearerOf.2.1 85 = .ok (.aload_n 3, 1) := by decide +kernel
theorem d_SF_hearerOf_86 : decode Y_SF_hearerOf.2.1 86 = .ok (.getfield 224, 3) := by decide +kernel
theorem d_SF_hearerOf_89 : decode Y_SF_hearerOf.2.1 89 = .ok (.iload_n 1, 1) := by decide +kernel
theorem d_SF_hearerOf_90 : decode Y_SF_hearerOf.2.1 90 = .ok (.iaload, 1) := by decide +kernel
theorem d_SF_hearerOf_91 : decode Y_SF_hearerOf.2.1 91 = .ok (.ireturn, 1) := by decide +kernel
theorem d_SF_hearerOf_92 : decode Y_SF_hearerOf.2.1 92 = .ok (.aload_n 3, 1) := by decide +kernel
theorem d_SF_hearerOf_93 : decode Y_SF_hearerOf.2.1 93 = .ok (.getfield 227, 3) := by decide +kernel
theorem d_SF_hearerOf_96 : decode Y_SF_hearerOf.2.1 96 = .ok (.iload_n 1, 1) := by decide +kernel
theorem d_SF_hearerOf_97 : decode Y_SF_hearerOf.2.1 97 = .ok (.iaload, 1) := by decide +kernel
theorem d_SF_hearerOf_98 : decode Y_SF_hearerOf.2.1 98 = .ok (.ireturn, 1) := by decide +kernel
theorem d_SF_hearerOf_99 : decode Y_SF_hearerOf.2.1 99 = .ok (.aload_n 0, 1) := by decide +kernel
theorem d_SF_hearerOf_100 : decode Y_SF_hearerOf.2.1 100 = .ok (.getfield 19, 3) := by decide +kernel
theorem d_SF_hearerOf_103 : decode Y_SF_hearerOf.2.1 103 = .ok (.getfield 98, 3) := by decide +kernel
theorem d_SF_hearerOf_106 : decode Y_SF_hearerOf.2.1 106 = .ok (.aload_n 3, 1) := by decide +kernel
theorem d_SF_hearerOf_107 : decode Y_SF_hearerOf.2.1 107 = .ok (.getfield 219, 3) := by decide +kernel
theorem d_SF_hearerOf_110 : decode Y_SF_hearerOf.2.1 110 = .ok (.iload_n 1, 1) := by decide +kernel
theorem d_SF_hearerOf_111 : decode Y_SF_hearerOf.2.1 111 = .ok (.iaload, 1) := by decide +kernel
theorem d_SF_hearerOf_112 : decode Y_SF_hearerOf.2.1 112 = .ok (.aload_n 3, 1) := by decide +kernel
theorem d_SF_hearerOf_113 : decode Y_SF_hearerOf.2.1 113 = .ok (.getfield 220, 3) := by decide +kernel
theorem d_SF_hearerOf_116 : decode Y_SF_hearerOf.2.1 116 = .ok (.iload_n 1, 1) := by decide +kernel
theorem d_SF_hearerOf_117 : decode Y_SF_hearerOf.2.1 117 = .ok (.iaload, 1) := by decide +kernel
theorem d_SF_hearerOf_118 : decode Y_SF_hearerOf.2.1 118 = .ok (.invokevirtual 230, 3) := by decide +kernel
theorem d_SF_hearerOf_121 : decode Y_SF_hearerOf.2.1 121 = .ok (.ireturn, 1) := by decide +kernel
theorem d_SF_hearerOf_122 : decode Y_SF_hearerOf.2.1 122 = .ok (.new 44, 3) := by decide +kernel
theorem d_SF_hearerOf_125 : decode Y_SF_hearerOf.2.1 125 = .ok (.dup, 1) := by decide +kernel
theorem d_SF_hearerOf_126 : decode Y_SF_hearerOf.2.1 126 = .ok (.ldc 234, 2) := by decide +kernel
theorem d_SF_hearerOf_128 : decode Y_SF_hearerOf.2.1 128 = .ok (.invokespecial 48, 3) := by decide +kernel
theorem d_SF_hearerOf_131 : decode Y_SF_hearerOf.2.1 131 = .ok (.athrow, 1) := by decide +kernel
def f_SF_hearerOf (w : zW) (D : zD) (a : Nat) (x1 : Int32) (x2 : Int32) : Option ((Int32 ⊕ String) × zD) := zref w 0 1 a (fun p1 => zref w 3 1 p1 (fun p2 => zobj w 4 p2 (zci (f_Hearers_has w D p2 x1) (fun v3 D4 => (if v3 = 0 then some (.inr "java/lang/IndexOutOfBoundsException", D4) else (if x2 = (0 : Int32) then zref w 4 0 p2 (fun p5 => zald w D4 0 p5 x1 (fun v6 => some (.inl v6, D4))) else (if x2 = (1 : Int32) then zref w 4 1 p2 (fun p7 => zald w D4 0 p7 x1 (fun v8 => some (.inl v8, D4))) else (if x2 = (2 : Int32) then zref w 4 2 p2 (fun p9 => zald w D4 0 p9 x1 (fun v10 => some (.inl v10, D4))) else (if x2 = (3 : Int32) then zref w 4 3 p2 (fun p11 => zald w D4 0 p11 x1 (fun v12 => some (.inl v12, D4))) else (if x2 = (4 : Int32) then zref w 4 4 p2 (fun p13 => zald w D4 0 p13 x1 (fun v14 => some (.inl v14, D4))) else (if x2 = (5 : Int32) then zref w 0 1 a (fun p15 => zref w 3 0 p15 (fun p16 => zref w 4 0 p2 (fun p17 => zald w D4 0 p17 x1 (fun v18 => zref w 4 1 p2 (fun p19 => zald w D4 0 p19 x1 (fun v20 => zobj w 6 p16 (zci (f_Sirens_nearestTo w D4 p16 v18 v20) (fun v21 D22 => some (.inl v21, D22))))))))) else some (.inr "java/lang/IllegalArgumentException", D4))))))))))))
set_option maxHeartbeats 4000000 in
set_option maxRecDepth 100000 in
theorem c_SF_hearerOf (z : zT) (D : zD) (a : Nat) (x1 : Int32) (x2 : Int32) : zMX Y_SF_hearerOf 8 1 6 (zqX z) (f_SF_hearerOf z.2 D a x1 x2) [.ref a, .int x1, .int x2] z D := by
  refine zMX_of (plainFor_of_name (by decide +kernel)) rfl (Nat.le_of_ble_eq_true rfl) (fun K => ?_)
  unfold f_SF_hearerOf
  refine z_aload_n (pc := 0) d_SF_hearerOf_0 rfl 0 rfl ?_
  refine z_getR (pc := 1) fl_SF_19 d_SF_hearerOf_1 (fun p1 => ?_)
  refine z_getR (pc := 4) fl_SF_107 d_SF_hearerOf_4 (fun p2 => ?_)
  refine z_astore_n (pc := 7) d_SF_hearerOf_7 rfl (by decide) (lv' := [(3, .ref p2), (0, .ref a), (1, .int x1), (2, .int x2)]) rfl ?_
  refine z_aload_n (pc := 8) d_SF_hearerOf_8 rfl 0 rfl ?_
  refine z_iload_n (pc := 9) d_SF_hearerOf_9 rfl 2 rfl ?_
  refine z_callVi (pc := 10) [.int x1] lkV_SF_216 rfl (c_Hearers_has z D p2 x1) (by decide) rfl rfl (Nat.le_of_ble_eq_true rfl) d_SF_hearerOf_10 (fun v3 D4 => ?_)
  refine z_if_ne (pc := 13) (tgt := 26) d_SF_hearerOf_13 (by decide) ?_ ?_
  · exact z_throw (pc := 16) th_SF_178_217_182 rfl (by decide) (Nat.le_of_ble_eq_true rfl) (by decide) (by decide) d_SF_hearerOf_16 d_SF_hearerOf_19 d_SF_hearerOf_20 d_SF_hearerOf_22 d_SF_hearerOf_25
  · refine z_iload_n (pc := 26) d_SF_hearerOf_26 rfl 3 rfl ?_
    refine z_case (fun e0 => ?_) (fun e0 => ?_)
    · refine z_tableIn (pc := 27) (tgt := 64) d_SF_hearerOf_27 e0 (by decide) (by decide) rfl (by decide) ?_
      refine z_aload_n (pc := 64) d_SF_hearerOf_64 rfl 0 rfl ?_
      refine z_getR (pc := 65) fl_SF_219 d_SF_hearerOf_65 (fun p5 => ?_)
      refine z_iload_n (pc := 68) d_SF_hearerOf_68 rfl 2 rfl ?_
      refine z_iaload (pc := 69) d_SF_hearerOf_69 (fun v6 => ?_)
      exact z_xret (pc := 70) d_SF_hearerOf_70 rfl
    · refine z_case (fun e1 => ?_) (fun e1 => ?_)
      · refine z_tableIn (pc := 27) (tgt := 71) d_SF_hearerOf_27 e1 (by decide) (by decide) rfl (by decide) ?_
        refine z_aload_n (pc := 71) d_SF_hearerOf_71 rfl 0 rfl ?_
        refine z_getR (pc := 72) fl_SF_220 d_SF_hearerOf_72 (fun p7 => ?_)
        refine z_iload_n (pc := 75) d_SF_hearerOf_75 rfl 2 rfl ?_
        refine z_iaload (pc := 76) d_SF_hearerOf_76 (fun v8 => ?_)
        exact z_xret (pc := 77) d_SF_hearerOf_77 rfl
      · refine z_case (fun e2 => ?_) (fun e2 => ?_)
        · refine z_tableIn (pc := 27) (tgt := 78) d_SF_hearerOf_27 e2 (by decide) (by decide) rfl (by decide) ?_
          refine z_aload_n (pc := 78) d_SF_hearerOf_78 rfl 0 rfl ?_
          refine z_getR (pc := 79) fl_SF_221 d_SF_hearerOf_79 (fun p9 => ?_)
          refine z_iload_n (pc := 82) d_SF_hearerOf_82 rfl 2 rfl ?_
          refine z_iaload (pc := 83) d_SF_hearerOf_83 (fun v10 => ?_)
          exact z_xret (pc := 84) d_SF_hearerOf_84 rfl
        · refine z_case (fun e3 => ?_) (fun e3 => ?_)
          · refine z_tableIn (pc := 27) (tgt := 85) d_SF_hearerOf_27 e3 (by decide) (by decide) rfl (by decide) ?_
            refine z_aload_n (pc := 85) d_SF_hearerOf_85 rfl 0 rfl ?_
            refine z_getR (pc := 86) fl_SF_224 d_SF_hearerOf_86 (fun p11 => ?_)
            refine z_iload_n (pc := 89) d_SF_hearerOf_89 rfl 2 rfl ?_
            refine z_iaload (pc := 90) d_SF_hearerOf_90 (fun v12 => ?_)
            exact z_xret (pc := 91) d_SF_hearerOf_91 rfl
          · refine z_case (fun e4 => ?_) (fun e4 => ?_)
            · refine z_tableIn (pc := 27) (tgt := 92) d_SF_hearerOf_27 e4 (by decide) (by decide) rfl (by decide) ?_
              refine z_aload_n (pc := 92) d_SF_hearerOf_92 rfl 0 rfl ?_
              refine z_getR (pc := 93) fl_SF_227 d_SF_hearerOf_93 (fun p13 => ?_)
              refine z_iload_n (pc := 96) d_SF_hearerOf_96 rfl 2 rfl ?_
              refine z_iaload (pc := 97) d_SF_hearerOf_97 (fun v14 => ?_)
              exact z_xret (pc := 98) d_SF_hearerOf_98 rfl
            · refine z_case (fun e5 => ?_) (fun e5 => ?_)
              · refine z_tableIn (pc := 27) (tgt := 99) d_SF_hearerOf_27 e5 (by decide) (by decide) rfl (by decide) ?_
                refine z_aload_n (pc := 99) d_SF_hearerOf_99 rfl 1 rfl ?_
                refine z_getR (pc := 100) fl_SF_19 d_SF_hearerOf_100 (fun p15 => ?_)
                refine z_getR (pc := 103) fl_SF_98 d_SF_hearerOf_103 (fun p16 => ?_)
                refine z_aload_n (pc := 106) d_SF_hearerOf_106 rfl 0 rfl ?_
                refine z_getR (pc := 107) fl_SF_219 d_SF_hearerOf_107 (fun p17 => ?_)
                refine z_iload_n (pc := 110) d_SF_hearerOf_110 rfl 2 rfl ?_
                refine z_iaload (pc := 111) d_SF_hearerOf_111 (fun v18 => ?_)
                refine z_aload_n (pc := 112) d_SF_hearerOf_112 rfl 0 rfl ?_
                refine z_getR (pc := 113) fl_SF_220 d_SF_hearerOf_113 (fun p19 => ?_)
                refine z_iload_n (pc := 116) d_SF_hearerOf_116 rfl 2 rfl ?_
                refine z_iaload (pc := 117) d_SF_hearerOf_117 (fun v20 => ?_)
                refine z_callVi (pc := 118) [.int v18, .int v20] lkV_SF_230 rfl (c_Sirens_nearestTo z D4 p16 v18 v20) (by decide) rfl rfl (Nat.le_of_ble_eq_true rfl) d_SF_hearerOf_118 (fun v21 D22 => ?_)
                exact z_xret (pc := 121) d_SF_hearerOf_121 rfl
              · refine z_tableOut (pc := 27) (tgt := 122) d_SF_hearerOf_27 (by have g0 := z_neI e0 (n := 0) rfl; have g1 := z_neI e1 (n := 1) rfl; have g2 := z_neI e2 (n := 2) rfl; have g3 := z_neI e3 (n := 3) rfl; have g4 := z_neI e4 (n := 4) rfl; have g5 := z_neI e5 (n := 5) rfl; omega) (by decide) ?_
                exact z_throw (pc := 122) th_SF_44_234_48 rfl (by decide) (Nat.le_of_ble_eq_true rfl) (by decide) (by decide) d_SF_hearerOf_122 d_SF_hearerOf_125 d_SF_hearerOf_126 d_SF_hearerOf_128 d_SF_hearerOf_131
theorem d_SF_wallOf_0 : decode Y_SF_wallOf.2.1 0 = .ok (.aload_n 0, 1) := by decide +kernel
theorem d_SF_wallOf_1 : decode Y_SF_wallOf.2.1 1 = .ok (.getfield 19, 3) := by decide +kernel
theorem d_SF_wallOf_4 : decode Y_SF_wallOf.2.1 4 = .ok (.getfield 116, 3) := by decide +kernel
theorem d_SF_wallOf_7 : decode Y_SF_wallOf.2.1 7 = .ok (.astore_n 3, 1) := by decide +kernel
theorem d_SF_wallOf_8 : decode Y_SF_wallOf.2.1 8 = .ok (.aload_n 3, 1) := by decide +kernel
theorem d_SF_wallOf_9 : decode Y_SF_wallOf.2.1 9 = .ok (.iload_n 1, 1) := by decide +kernel
theorem d_SF_wallOf_10 : decode Y_SF_wallOf.2.1 10 = .ok (.invokevirtual 236, 3) := by decide +kernel
theorem d_SF_wallOf_13 : decode Y_SF_wallOf.2.1 13 = .ok (.ifCond .ne (13), 3) := by decide +kernel
theorem d_SF_wallOf_16 : decode Y_SF_wallOf.2.1 16 = .ok (.new 178, 3) := by decide +kernel
theorem d_SF_wallOf_19 : decode Y_SF_wallOf.2.1 19 = .ok (.dup, 1) := by decide +kernel
theorem d_SF_wallOf_20 : decode Y_SF_wallOf.2.1 20 = .ok (.ldc 237, 2) := by decide +kernel
theorem d_SF_wallOf_22 : decode Y_SF_wallOf.2.1 22 = .ok (.invokespecial 182, 3) := by decide +kernel
theorem d_SF_wallOf_25 : decode Y_SF_wallOf.2.1 25 = .ok (.athrow, 1) := by decide +kernel
theorem d_SF_wallOf_26 : decode Y_SF_wallOf.2.1 26 = .ok (.iload_n 2, 1) := by decide +kernel
theorem d_SF_wallOf_27 : decode Y_SF_wallOf.2.1 27 = .ok (.lookupswitch (47) #[(0, (25)), (1, (40))], 25) := by decide +kernel
theorem d_SF_wallOf_52 : decode Y_SF_wallOf.2.1 52 = .ok (.aload_n 3, 1) := by decide +kernel
theorem d_SF_wallOf_53 : decode Y_SF_wallOf.2.1 53 = .ok (.getfield 239, 3) := by decide +kernel
theorem d_SF_wallOf_56 : decode Y_SF_wallOf.2.1 56 = .ok (.iload_n 1, 1) := by decide +kernel
theorem d_SF_wallOf_57 : decode Y_SF_wallOf.2.1 57 = .ok (.baload, 1) := by decide +kernel
theorem d_SF_wallOf_58 : decode Y_SF_wallOf.2.1 58 = .ok (.ifCond .eq (7), 3) := by decide +kernel
theorem d_SF_wallOf_61 : decode Y_SF_wallOf.2.1 61 = .ok (.iconst (1), 1) := by decide +kernel
theorem d_SF_wallOf_62 : decode Y_SF_wallOf.2.1 62 = .ok (.goto (4), 3) := by decide +kernel
theorem d_SF_wallOf_65 : decode Y_SF_wallOf.2.1 65 = .ok (.iconst (0), 1) := by decide +kernel
theorem d_SF_wallOf_66 : decode Y_SF_wallOf.2.1 66 = .ok (.ireturn, 1) := by decide +kernel
theorem d_SF_wallOf_67 : decode Y_SF_wallOf.2.1 67 = .ok (.aload_n 3, 1) := by decide +kernel
theorem d_SF_wallOf_68 : decode Y_SF_wallOf.2.1 68 = .ok (.getfield 242, 3) := by decide +kernel
theorem d_SF_wallOf_71 : decode Y_SF_wallOf.2.1 71 = .ok (.iload_n 1, 1) := by decide +kernel
theorem d_SF_wallOf_72 : decode Y_SF_wallOf.2.1 72 = .ok (.iaload, 1) := by decide +kernel
theorem d_SF_wallOf_73 : decode Y_SF_wallOf.2.1 73 = .ok (.ireturn, 1) := by decide +kernel
theorem d_SF_wallOf_74 : decode Y_SF_wallOf.2.1 74 = .ok (.new 44, 3) := by decide +kernel
theorem d_SF_wallOf_77 : decode Y_SF_wallOf.2.1 77 = .ok (.dup, 1) := by decide +kernel
theorem d_SF_wallOf_78 : decode Y_SF_wallOf.2.1 78 = .ok (.ldc 244, 2) := by decide +kernel
theorem d_SF_wallOf_80 : decode Y_SF_wallOf.2.1 80 = .ok (.invokespecial 48, 3) := by decide +kernel
theorem d_SF_wallOf_83 : decode Y_SF_wallOf.2.1 83 = .ok (.athrow, 1) := by decide +kernel
def f_SF_wallOf (w : zW) (D : zD) (a : Nat) (x1 : Int32) (x2 : Int32) : Option ((Int32 ⊕ String) × zD) := zref w 0 1 a (fun p1 => zref w 3 2 p1 (fun p2 => zobj w 7 p2 (zci (f_Walls_has w D p2 x1) (fun v3 D4 => (if v3 = 0 then some (.inr "java/lang/IndexOutOfBoundsException", D4) else (if x2 = (0 : Int32) then zjp (fun (s0 : Int32) (D5 : zD) => some (.inl s0, D5)) (fun j66 => zref w 7 0 p2 (fun p6 => zald w D4 2 p6 x1 (fun v7 => (if v7 = 0 then j66 (0 : Int32) D4 else j66 (1 : Int32) D4)))) else (if x2 = (1 : Int32) then zref w 7 1 p2 (fun p8 => zald w D4 0 p8 x1 (fun v9 => some (.inl v9, D4))) else some (.inr "java/lang/IllegalArgumentException", D4))))))))
set_option maxHeartbeats 4000000 in
set_option maxRecDepth 100000 in
theorem c_SF_wallOf (z : zT) (D : zD) (a : Nat) (x1 : Int32) (x2 : Int32) : zMX Y_SF_wallOf 8 1 6 (zqX z) (f_SF_wallOf z.2 D a x1 x2) [.ref a, .int x1, .int x2] z D := by
  refine zMX_of (plainFor_of_name (by decide +kernel)) rfl (Nat.le_of_ble_eq_true rfl) (fun K => ?_)
  unfold f_SF_wallOf
  refine z_aload_n (pc := 0) d_SF_wallOf_0 rfl 0 rfl ?_
  refine z_getR (pc := 1) fl_SF_19 d_SF_wallOf_1 (fun p1 => ?_)
  refine z_getR (pc := 4) fl_SF_116 d_SF_wallOf_4 (fun p2 => ?_)
  refine z_astore_n (pc := 7) d_SF_wallOf_7 rfl (by decide) (lv' := [(3, .ref p2), (0, .ref a), (1, .int x1), (2, .int x2)]) rfl ?_
  refine z_aload_n (pc := 8) d_SF_wallOf_8 rfl 0 rfl ?_
  refine z_iload_n (pc := 9) d_SF_wallOf_9 rfl 2 rfl ?_
  refine z_callVi (pc := 10) [.int x1] lkV_SF_236 rfl (c_Walls_has z D p2 x1) (by decide) rfl rfl (Nat.le_of_ble_eq_true rfl) d_SF_wallOf_10 (fun v3 D4 => ?_)
  refine z_if_ne (pc := 13) (tgt := 26) d_SF_wallOf_13 (by decide) ?_ ?_
  · exact z_throw (pc := 16) th_SF_178_237_182 rfl (by decide) (Nat.le_of_ble_eq_true rfl) (by decide) (by decide) d_SF_wallOf_16 d_SF_wallOf_19 d_SF_wallOf_20 d_SF_wallOf_22 d_SF_wallOf_25
  · refine z_iload_n (pc := 26) d_SF_wallOf_26 rfl 3 rfl ?_
    refine z_case (fun e0 => ?_) (fun e0 => ?_)
    · refine z_lookup (pc := 27) (tgt := 52) d_SF_wallOf_27 rfl (by rw [e0]) (by decide) ?_
      refine z_jp (fun j66 : Int32 → zD → Option ((Int32 ⊕ String) × zD) => ∀ (s0 : Int32) (D5 : zD), zGO K Y_SF_wallOf 8 1 6 (zqX z) (j66 s0 D5) 1 6 z D5 66 [] [.int s0]) (fun s0 D5 => ?_) (fun j66 h66 => ?_)
      · exact z_xret (pc := 66) d_SF_wallOf_66 rfl
      · refine z_aload_n (pc := 52) d_SF_wallOf_52 rfl 0 rfl ?_
        refine z_getR (pc := 53) fl_SF_239 d_SF_wallOf_53 (fun p6 => ?_)
        refine z_iload_n (pc := 56) d_SF_wallOf_56 rfl 2 rfl ?_
        refine z_baload (pc := 57) d_SF_wallOf_57 (fun v7 => ?_)
        refine z_if_eq (pc := 58) (tgt := 65) d_SF_wallOf_58 (by decide) ?_ ?_
        · refine z_iconst (pc := 65) d_SF_wallOf_65 ki_0 ?_
          exact z_sub [] rfl (h66 (0 : Int32) D4)
        · refine z_iconst (pc := 61) d_SF_wallOf_61 ki_1 ?_
          refine z_goto (pc := 62) (tgt := 66) d_SF_wallOf_62 (by decide) ?_
          exact z_sub [] rfl (h66 (1 : Int32) D4)
    · refine z_case (fun e1 => ?_) (fun e1 => ?_)
      · refine z_lookup (pc := 27) (tgt := 67) d_SF_wallOf_27 rfl (by rw [e1]) (by decide) ?_
        refine z_aload_n (pc := 67) d_SF_wallOf_67 rfl 0 rfl ?_
        refine z_getR (pc := 68) fl_SF_242 d_SF_wallOf_68 (fun p8 => ?_)
        refine z_iload_n (pc := 71) d_SF_wallOf_71 rfl 2 rfl ?_
        refine z_iaload (pc := 72) d_SF_wallOf_72 (fun v9 => ?_)
        exact z_xret (pc := 73) d_SF_wallOf_73 rfl
      · refine z_lookup (pc := 27) (off := 47) (tgt := 74) d_SF_wallOf_27 rfl ((lv_osw e0 rfl).trans ((lv_osw e1 rfl).trans (rfl))) (by decide) ?_
        exact z_throw (pc := 74) th_SF_44_244_48 rfl (by decide) (Nat.le_of_ble_eq_true rfl) (by decide) (by decide) d_SF_wallOf_74 d_SF_wallOf_77 d_SF_wallOf_78 d_SF_wallOf_80 d_SF_wallOf_83
theorem d_SF_pulse_0 : decode Y_SF_pulse.2.1 0 = .ok (.aload_n 0, 1) := by decide +kernel
theorem d_SF_pulse_1 : decode Y_SF_pulse.2.1 1 = .ok (.getfield 19, 3) := by decide +kernel
theorem d_SF_pulse_4 : decode Y_SF_pulse.2.1 4 = .ok (.getfield 144, 3) := by decide +kernel
theorem d_SF_pulse_7 : decode Y_SF_pulse.2.1 7 = .ok (.astore_n 3, 1) := by decide +kernel
theorem d_SF_pulse_8 : decode Y_SF_pulse.2.1 8 = .ok (.iload_n 1, 1) := by decide +kernel
theorem d_SF_pulse_9 : decode Y_SF_pulse.2.1 9 = .ok (.ifCond .lt (11), 3) := by decide +kernel
theorem d_SF_pulse_12 : decode Y_SF_pulse.2.1 12 = .ok (.iload_n 1, 1) := by decide +kernel
theorem d_SF_pulse_13 : decode Y_SF_pulse.2.1 13 = .ok (.aload_n 3, 1) := by decide +kernel
theorem d_SF_pulse_14 : decode Y_SF_pulse.2.1 14 = .ok (.getfield 148, 3) := by decide +kernel
theorem d_SF_pulse_17 : decode Y_SF_pulse.2.1 17 = .ok (.if_icmp .lt (13), 3) := by decide +kernel
theorem d_SF_pulse_20 : decode Y_SF_pulse.2.1 20 = .ok (.new 178, 3) := by decide +kernel
theorem d_SF_pulse_23 : decode Y_SF_pulse.2.1 23 = .ok (.dup, 1) := by decide +kernel
theorem d_SF_pulse_24 : decode Y_SF_pulse.2.1 24 = .ok (.ldc 246, 2) := by decide +kernel
theorem d_SF_pulse_26 : decode Y_SF_pulse.2.1 26 = .ok (.invokespecial 182, 3) := by decide +kernel
theorem d_SF_pulse_29 : decode Y_SF_pulse.2.1 29 = .ok (.athrow, 1) := by decide +kernel
theorem d_SF_pulse_30 : decode Y_SF_pulse.2.1 30 = .ok (.aload_n 3, 1) := by decide +kernel
theorem d_SF_pulse_31 : decode Y_SF_pulse.2.1 31 = .ok (.iload_n 1, 1) := by decide +kernel
theorem d_SF_pulse_32 : decode Y_SF_pulse.2.1 32 = .ok (.invokevirtual 248, 3) := by decide +kernel
theorem d_SF_pulse_35 : decode Y_SF_pulse.2.1 35 = .ok (.istore 4, 2) := by decide +kernel
theorem d_SF_pulse_37 : decode Y_SF_pulse.2.1 37 = .ok (.iload_n 2, 1) := by decide +kernel
theorem d_SF_pulse_38 : decode Y_SF_pulse.2.1 38 = .ok (.tableswitch (86) 0 5 #[(38), (46), (54), (62), (70), (78)], 38) := by decide +kernel
theorem d_SF_pulse_76 : decode Y_SF_pulse.2.1 76 = .ok (.aload_n 3, 1) := by decide +kernel
theorem d_SF_pulse_77 : decode Y_SF_pulse.2.1 77 = .ok (.getfield 251, 3) := by decide +kernel
theorem d_SF_pulse_80 : decode Y_SF_pulse.2.1 80 = .ok (.iload 4, 2) := by decide +kernel
theorem d_SF_pulse_82 : decode Y_SF_pulse.2.1 82 = .ok (.iaload, 1) := by decide +kernel
theorem d_SF_pulse_83 : decode Y_SF_pulse.2.1 83 = .ok (.ireturn, 1) := by decide +kernel
theorem d_SF_pulse_84 : decode Y_SF_pulse.2.1 84 = .ok (.aload_n 3, 1) := by decide +kernel
theorem d_SF_pulse_85 : decode Y_SF_pulse.2.1 85 = .ok (.getfield 254, 3) := by decide +kernel
theorem d_SF_pulse_88 : decode Y_SF_pulse.2.1 88 = .ok (.iload 4, 2) := by decide +kernel
theorem d_SF_pulse_90 : decode Y_SF_pulse.2.1 90 = .ok (.iaload, 1) := by decide +kernel
theorem d_SF_pulse_91 : decode Y_SF_pulse.2.1 91 = .ok (.ireturn, 1) := by decide +kernel
theorem d_SF_pulse_92 : decode Y_SF_pulse.2.1 92 = .ok (.aload_n 3, 1) := by decide +kernel
theorem d_SF_pulse_93 : decode Y_SF_pulse.2.1 93 = .ok (.getfield 255, 3) := by decide +kernel
theorem d_SF_pulse_96 : decode Y_SF_pulse.2.1 96 = .ok (.iload 4, 2) := by decide +kernel
theorem d_SF_pulse_98 : decode Y_SF_pulse.2.1 98 = .ok (.iaload, 1) := by decide +kernel
theorem d_SF_pulse_99 : decode Y_SF_pulse.2.1 99 = .ok (.ireturn, 1) := by decide +kernel
theorem d_SF_pulse_100 : decode Y_SF_pulse.2.1 100 = .ok (.aload_n 3, 1) := by decide +kernel
theorem d_SF_pulse_101 : decode Y_SF_pulse.2.1 101 = .ok (.getfield 256, 3) := by decide +kernel
theorem d_SF_pulse_104 : decode Y_SF_pulse.2.1 104 = .ok (.iload 4, 2) := by decide +kernel
theorem d_SF_pulse_106 : decode Y_SF_pulse.2.1 106 = .ok (.iaload, 1) := by decide +kernel
theorem d_SF_pulse_107 : decode Y_SF_pulse.2.1 107 = .ok (.ireturn, 1) := by decide +kernel
theorem d_SF_pulse_108 : decode Y_SF_pulse.2.1 108 = .ok (.aload_n 3, 1) := by decide +kernel
theorem d_SF_pulse_109 : decode Y_SF_pulse.2.1 109 = .ok (.getfield 259, 3) := by decide +kernel
theorem d_SF_pulse_112 : decode Y_SF_pulse.2.1 112 = .ok (.iload 4, 2) := by decide +kernel
theorem d_SF_pulse_114 : decode Y_SF_pulse.2.1 114 = .ok (.iaload, 1) := by decide +kernel
theorem d_SF_pulse_115 : decode Y_SF_pulse.2.1 115 = .ok (.ireturn, 1) := by decide +kernel
theorem d_SF_pulse_116 : decode Y_SF_pulse.2.1 116 = .ok (.aload_n 3, 1) := by decide +kernel
theorem d_SF_pulse_117 : decode Y_SF_pulse.2.1 117 = .ok (.getfield 262, 3) := by decide +kernel
theorem d_SF_pulse_120 : decode Y_SF_pulse.2.1 120 = .ok (.iload 4, 2) := by decide +kernel
theorem d_SF_pulse_122 : decode Y_SF_pulse.2.1 122 = .ok (.iaload, 1) := by decide +kernel
theorem d_SF_pulse_123 : decode Y_SF_pulse.2.1 123 = .ok (.ireturn, 1) := by decide +kernel
theorem d_SF_pulse_124 : decode Y_SF_pulse.2.1 124 = .ok (.new 44, 3) := by decide +kernel
theorem d_SF_pulse_127 : decode Y_SF_pulse.2.1 127 = .ok (.dup, 1) := by decide +kernel
theorem d_SF_pulse_128 : decode Y_SF_pulse.2.1 128 = .ok (.ldc 234, 2) := by decide +kernel
theorem d_SF_pulse_130 : decode Y_SF_pulse.2.1 130 = .ok (.invokespecial 48, 3) := by decide +kernel
theorem d_SF_pulse_133 : decode Y_SF_pulse.2.1 133 = .ok (.athrow, 1) := by decide +kernel
def f_SF_pulse (w : zW) (D : zD) (a : Nat) (x1 : Int32) (x2 : Int32) : Option ((Int32 ⊕ String) × zD) := zjp (fun (D1 : zD) => some (.inr "java/lang/IndexOutOfBoundsException", D1)) (fun j20 => zref w 0 1 a (fun p2 => zref w 3 3 p2 (fun p3 => (if x1 < 0 then j20 D else zfld w D 5 7 p3 (fun v4 => (if x1 < v4 then zobj w 5 p3 (zci (f_Pulses_rowOf w D p3 x1) (fun v5 D6 => (if x2 = (0 : Int32) then zref w 5 0 p3 (fun p7 => zald w D6 0 p7 v5 (fun v8 => some (.inl v8, D6))) else (if x2 = (1 : Int32) then zref w 5 1 p3 (fun p9 => zald w D6 0 p9 v5 (fun v10 => some (.inl v10, D6))) else (if x2 = (2 : Int32) then zref w 5 2 p3 (fun p11 => zald w D6 0 p11 v5 (fun v12 => some (.inl v12, D6))) else (if x2 = (3 : Int32) then zref w 5 3 p3 (fun p13 => zald w D6 0 p13 v5 (fun v14 => some (.inl v14, D6))) else (if x2 = (4 : Int32) then zref w 5 4 p3 (fun p15 => zald w D6 0 p15 v5 (fun v16 => some (.inl v16, D6))) else (if x2 = (5 : Int32) then zref w 5 5 p3 (fun p17 => zald w D6 0 p17 v5 (fun v18 => some (.inl v18, D6))) else some (.inr "java/lang/IllegalArgumentException", D6))))))))) else j20 D))))))
set_option maxHeartbeats 4000000 in
set_option maxRecDepth 100000 in
theorem c_SF_pulse (z : zT) (D : zD) (a : Nat) (x1 : Int32) (x2 : Int32) : zMX Y_SF_pulse 8 1 6 (zqX z) (f_SF_pulse z.2 D a x1 x2) [.ref a, .int x1, .int x2] z D := by
  refine zMX_of (plainFor_of_name (by decide +kernel)) rfl (Nat.le_of_ble_eq_true rfl) (fun K => ?_)
  unfold f_SF_pulse
  refine z_jp (fun j20 : zD → Option ((Int32 ⊕ String) × zD) => ∀ (D1 : zD), zGO K Y_SF_pulse 8 1 6 (zqX z) (j20  D1) 1 6 z D1 20 [] []) (fun  D1 => ?_) (fun j20 h20 => ?_)
  · exact z_throw (pc := 20) th_SF_178_246_182 rfl (by decide) (Nat.le_of_ble_eq_true rfl) (by decide) (by decide) d_SF_pulse_20 d_SF_pulse_23 d_SF_pulse_24 d_SF_pulse_26 d_SF_pulse_29
  · refine z_aload_n (pc := 0) d_SF_pulse_0 rfl 0 rfl ?_
    refine z_getR (pc := 1) fl_SF_19 d_SF_pulse_1 (fun p2 => ?_)
    refine z_getR (pc := 4) fl_SF_144 d_SF_pulse_4 (fun p3 => ?_)
    refine z_astore_n (pc := 7) d_SF_pulse_7 rfl (by decide) (lv' := [(3, .ref p3), (0, .ref a), (1, .int x1), (2, .int x2)]) rfl ?_
    refine z_iload_n (pc := 8) d_SF_pulse_8 rfl 2 rfl ?_
    refine z_if_lt (pc := 9) (tgt := 20) d_SF_pulse_9 (by decide) ?_ ?_
    · exact z_sub [] rfl (h20 D)
    · refine z_iload_n (pc := 12) d_SF_pulse_12 rfl 2 rfl ?_
      refine z_aload_n (pc := 13) d_SF_pulse_13 rfl 0 rfl ?_
      refine z_getI (pc := 14) fl_SF_148 d_SF_pulse_14 (fun v4 => ?_)
      refine z_icmp_lt (pc := 17) (tgt := 30) d_SF_pulse_17 (by decide) ?_ ?_
      · refine z_aload_n (pc := 30) d_SF_pulse_30 rfl 0 rfl ?_
        refine z_iload_n (pc := 31) d_SF_pulse_31 rfl 2 rfl ?_
        refine z_callVi (pc := 32) [.int x1] lkV_SF_248 rfl (c_Pulses_rowOf z D p3 x1) (by decide) rfl rfl (Nat.le_of_ble_eq_true rfl) d_SF_pulse_32 (fun v5 D6 => ?_)
        refine z_istore (pc := 35) d_SF_pulse_35 (by decide) (lv' := [(4, .int v5), (3, .ref p3), (0, .ref a), (1, .int x1), (2, .int x2)]) rfl ?_
        refine z_iload_n (pc := 37) d_SF_pulse_37 rfl 4 rfl ?_
        refine z_case (fun e0 => ?_) (fun e0 => ?_)
        · refine z_tableIn (pc := 38) (tgt := 76) d_SF_pulse_38 e0 (by decide) (by decide) rfl (by decide) ?_
          refine z_aload_n (pc := 76) d_SF_pulse_76 rfl 1 rfl ?_
          refine z_getR (pc := 77) fl_SF_251 d_SF_pulse_77 (fun p7 => ?_)
          refine z_iload (pc := 80) d_SF_pulse_80 0 rfl ?_
          refine z_iaload (pc := 82) d_SF_pulse_82 (fun v8 => ?_)
          exact z_xret (pc := 83) d_SF_pulse_83 rfl
        · refine z_case (fun e1 => ?_) (fun e1 => ?_)
          · refine z_tableIn (pc := 38) (tgt := 84) d_SF_pulse_38 e1 (by decide) (by decide) rfl (by decide) ?_
            refine z_aload_n (pc := 84) d_SF_pulse_84 rfl 1 rfl ?_
            refine z_getR (pc := 85) fl_SF_254 d_SF_pulse_85 (fun p9 => ?_)
            refine z_iload (pc := 88) d_SF_pulse_88 0 rfl ?_
            refine z_iaload (pc := 90) d_SF_pulse_90 (fun v10 => ?_)
            exact z_xret (pc := 91) d_SF_pulse_91 rfl
          · refine z_case (fun e2 => ?_) (fun e2 => ?_)
            · refine z_tableIn (pc := 38) (tgt := 92) d_SF_pulse_38 e2 (by decide) (by decide) rfl (by decide) ?_
              refine z_aload_n (pc := 92) d_SF_pulse_92 rfl 1 rfl ?_
              refine z_getR (pc := 93) fl_SF_255 d_SF_pulse_93 (fun p11 => ?_)
              refine z_iload (pc := 96) d_SF_pulse_96 0 rfl ?_
              refine z_iaload (pc := 98) d_SF_pulse_98 (fun v12 => ?_)
              exact z_xret (pc := 99) d_SF_pulse_99 rfl
            · refine z_case (fun e3 => ?_) (fun e3 => ?_)
              · refine z_tableIn (pc := 38) (tgt := 100) d_SF_pulse_38 e3 (by decide) (by decide) rfl (by decide) ?_
                refine z_aload_n (pc := 100) d_SF_pulse_100 rfl 1 rfl ?_
                refine z_getR (pc := 101) fl_SF_256 d_SF_pulse_101 (fun p13 => ?_)
                refine z_iload (pc := 104) d_SF_pulse_104 0 rfl ?_
                refine z_iaload (pc := 106) d_SF_pulse_106 (fun v14 => ?_)
                exact z_xret (pc := 107) d_SF_pulse_107 rfl
              · refine z_case (fun e4 => ?_) (fun e4 => ?_)
                · refine z_tableIn (pc := 38) (tgt := 108) d_SF_pulse_38 e4 (by decide) (by decide) rfl (by decide) ?_
                  refine z_aload_n (pc := 108) d_SF_pulse_108 rfl 1 rfl ?_
                  refine z_getR (pc := 109) fl_SF_259 d_SF_pulse_109 (fun p15 => ?_)
                  refine z_iload (pc := 112) d_SF_pulse_112 0 rfl ?_
                  refine z_iaload (pc := 114) d_SF_pulse_114 (fun v16 => ?_)
                  exact z_xret (pc := 115) d_SF_pulse_115 rfl
                · refine z_case (fun e5 => ?_) (fun e5 => ?_)
                  · refine z_tableIn (pc := 38) (tgt := 116) d_SF_pulse_38 e5 (by decide) (by decide) rfl (by decide) ?_
                    refine z_aload_n (pc := 116) d_SF_pulse_116 rfl 1 rfl ?_
                    refine z_getR (pc := 117) fl_SF_262 d_SF_pulse_117 (fun p17 => ?_)
                    refine z_iload (pc := 120) d_SF_pulse_120 0 rfl ?_
                    refine z_iaload (pc := 122) d_SF_pulse_122 (fun v18 => ?_)
                    exact z_xret (pc := 123) d_SF_pulse_123 rfl
                  · refine z_tableOut (pc := 38) (tgt := 124) d_SF_pulse_38 (by have g0 := z_neI e0 (n := 0) rfl; have g1 := z_neI e1 (n := 1) rfl; have g2 := z_neI e2 (n := 2) rfl; have g3 := z_neI e3 (n := 3) rfl; have g4 := z_neI e4 (n := 4) rfl; have g5 := z_neI e5 (n := 5) rfl; omega) (by decide) ?_
                    exact z_throw (pc := 124) th_SF_44_234_48 rfl (by decide) (Nat.le_of_ble_eq_true rfl) (by decide) (by decide) d_SF_pulse_124 d_SF_pulse_127 d_SF_pulse_128 d_SF_pulse_130 d_SF_pulse_133
      · exact z_sub [] rfl (h20 D)
theorem d_SF_heard_0 : decode Y_SF_heard.2.1 0 = .ok (.aload_n 0, 1) := by decide +kernel
theorem d_SF_heard_1 : decode Y_SF_heard.2.1 1 = .ok (.getfield 19, 3) := by decide +kernel
theorem d_SF_heard_4 : decode Y_SF_heard.2.1 4 = .ok (.iload_n 1, 1) := by decide +kernel
theorem d_SF_heard_5 : decode Y_SF_heard.2.1 5 = .ok (.iload_n 2, 1) := by decide +kernel
theorem d_SF_heard_6 : decode Y_SF_heard.2.1 6 = .ok (.invokevirtual 265, 3) := by decide +kernel
theorem d_SF_heard_9 : decode Y_SF_heard.2.1 9 = .ok (.ifCond .ne (14), 3) := by decide +kernel
theorem d_SF_heard_12 : decode Y_SF_heard.2.1 12 = .ok (.new 178, 3) := by decide +kernel
theorem d_SF_heard_15 : decode Y_SF_heard.2.1 15 = .ok (.dup, 1) := by decide +kernel
theorem d_SF_heard_16 : decode Y_SF_heard.2.1 16 = .ok (.ldc_w 269, 3) := by decide +kernel
theorem d_SF_heard_19 : decode Y_SF_heard.2.1 19 = .ok (.invokespecial 182, 3) := by decide +kernel
theorem d_SF_heard_22 : decode Y_SF_heard.2.1 22 = .ok (.athrow, 1) := by decide +kernel
theorem d_SF_heard_23 : decode Y_SF_heard.2.1 23 = .ok (.iload_n 1, 1) := by decide +kernel
theorem d_SF_heard_24 : decode Y_SF_heard.2.1 24 = .ok (.iload_n 2, 1) := by decide +kernel
theorem d_SF_heard_25 : decode Y_SF_heard.2.1 25 = .ok (.invokestatic 271, 3) := by decide +kernel
theorem d_SF_heard_28 : decode Y_SF_heard.2.1 28 = .ok (.istore 4, 2) := by decide +kernel
theorem d_SF_heard_30 : decode Y_SF_heard.2.1 30 = .ok (.iload_n 3, 1) := by decide +kernel
theorem d_SF_heard_31 : decode Y_SF_heard.2.1 31 = .ok (.tableswitch (117) 0 5 #[(37), (51), (65), (79), (93), (107)], 37) := by decide +kernel
theorem d_SF_heard_68 : decode Y_SF_heard.2.1 68 = .ok (.aload_n 0, 1) := by decide +kernel
theorem d_SF_heard_69 : decode Y_SF_heard.2.1 69 = .ok (.getfield 19, 3) := by decide +kernel
theorem d_SF_heard_72 : decode Y_SF_heard.2.1 72 = .ok (.getfield 154, 3) := by decide +kernel
theorem d_SF_heard_75 : decode Y_SF_heard.2.1 75 = .ok (.getfield 274, 3) := by decide +kernel
theorem d_SF_heard_78 : decode Y_SF_heard.2.1 78 = .ok (.iload 4, 2) := by decide +kernel
theorem d_SF_heard_80 : decode Y_SF_heard.2.1 80 = .ok (.iaload, 1) := by decide +kernel
theorem d_SF_heard_81 : decode Y_SF_heard.2.1 81 = .ok (.ireturn, 1) := by decide +kernel
theorem d_SF_heard_82 : decode Y_SF_heard.2.1 82 = .ok (.aload_n 0, 1) := by decide +kernel
theorem d_SF_heard_83 : decode Y_SF_heard.2.1 83 = .ok (.getfield 19, 3) := by decide +kernel
theorem d_SF_heard_86 : decode Y_SF_heard.2.1 86 = .ok (.getfield 154, 3) := by decide +kernel
theorem d_SF_heard_89 : decode Y_SF_heard.2.1 89 = .ok (.getfield 277, 3) := by decide +kernel
theorem d_SF_heard_92 : decode Y_SF_heard.2.1 92 = .ok (.iload 4, 2) := by decide +kernel
theorem d_SF_heard_94 : decode Y_SF_heard.2.1 94 = .ok (.iaload, 1) := by decide +kernel
theorem d_SF_heard_95 : decode Y_SF_heard.2.1 95 = .ok (.ireturn, 1) := by decide +kernel
theorem d_SF_heard_96 : decode Y_SF_heard.2.1 96 = .ok (.aload_n 0, 1) := by decide +kernel
theorem d_SF_heard_97 : decode Y_SF_heard.2.1 97 = .ok (.getfield 19, 3) := by decide +kernel
theorem d_SF_heard_100 : decode Y_SF_heard.2.1 100 = .ok (.getfield 154, 3) := by decide +kernel
theorem d_SF_heard_103 : decode Y_SF_heard.2.1 103 = .ok (.getfield 280, 3) := by decide +kernel
theorem d_SF_heard_106 : decode Y_SF_heard.2.1 106 = .ok (.iload 4, 2) := by decide +kernel
theorem d_SF_heard_108 : decode Y_SF_heard.2.1 108 = .ok (.iaload, 1) := by decide +kernel
theorem d_SF_heard_109 : decode Y_SF_heard.2.1 109 = .ok (.ireturn, 1) := by decide +kernel
theorem d_SF_heard_110 : decode Y_SF_heard.2.1 110 = .ok (.aload_n 0, 1) := by decide +kernel
theorem d_SF_heard_111 : decode Y_SF_heard.2.1 111 = .ok (.getfield 19, 3) := by decide +kernel
theorem d_SF_heard_114 : decode Y_SF_heard.2.1 114 = .ok (.getfield 154, 3) := by decide +kernel
theorem d_SF_heard_117 : decode Y_SF_heard.2.1 117 = .ok (.getfield 283, 3) := by decide +kernel
theorem d_SF_heard_120 : decode Y_SF_heard.2.1 120 = .ok (.iload 4, 2) := by decide +kernel
theorem d_SF_heard_122 : decode Y_SF_heard.2.1 122 = .ok (.iaload, 1) := by decide +kernel
theorem d_SF_heard_123 : decode Y_SF_heard.2.1 123 = .ok (.ireturn, 1) := by decide +kernel
theorem d_SF_heard_124 : decode Y_SF_heard.2.1 124 = .ok (.aload_n 0, 1) := by decide +kernel
theorem d_SF_heard_125 : decode Y_SF_heard.2.1 125 = .ok (.getfield 19, 3) := by decide +kernel
theorem d_SF_heard_128 : decode Y_SF_heard.2.1 128 = .ok (.getfield 154, 3) := by decide +kernel
theorem d_SF_heard_131 : decode Y_SF_heard.2.1 131 = .ok (.getfield 286, 3) := by decide +kernel
theorem d_SF_heard_134 : decode Y_SF_heard.2.1 134 = .ok (.iload 4, 2) := by decide +kernel
theorem d_SF_heard_136 : decode Y_SF_heard.2.1 136 = .ok (.iaload, 1) := by decide +kernel
theorem d_SF_heard_137 : decode Y_SF_heard.2.1 137 = .ok (.ireturn, 1) := by decide +kernel
theorem d_SF_heard_138 : decode Y_SF_heard.2.1 138 = .ok (.aload_n 0, 1) := by decide +kernel
theorem d_SF_heard_139 : decode Y_SF_heard.2.1 139 = .ok (.getfield 19, 3) := by decide +kernel
theorem d_SF_heard_142 : decode Y_SF_heard.2.1 142 = .ok (.iload_n 1, 1) := by decide +kernel
theorem d_SF_heard_143 : decode Y_SF_heard.2.1 143 = .ok (.iload_n 2, 1) := by decide +kernel
theorem d_SF_heard_144 : decode Y_SF_heard.2.1 144 = .ok (.invokevirtual 289, 3) := by decide +kernel
theorem d_SF_heard_147 : decode Y_SF_heard.2.1 147 = .ok (.ireturn, 1) := by decide +kernel
theorem d_SF_heard_148 : decode Y_SF_heard.2.1 148 = .ok (.new 44, 3) := by decide +kernel
theorem d_SF_heard_151 : decode Y_SF_heard.2.1 151 = .ok (.dup, 1) := by decide +kernel
theorem d_SF_heard_152 : decode Y_SF_heard.2.1 152 = .ok (.ldc 234, 2) := by decide +kernel
theorem d_SF_heard_154 : decode Y_SF_heard.2.1 154 = .ok (.invokespecial 48, 3) := by decide +kernel
theorem d_SF_heard_157 : decode Y_SF_heard.2.1 157 = .ok (.athrow, 1) := by decide +kernel
def f_SF_heard (w : zW) (D : zD) (a : Nat) (x1 : Int32) (x2 : Int32) (x3 : Int32) : Option ((Int32 ⊕ String) × zD) := zref w 0 1 a (fun p1 => zobj w 3 p1 (zci (f_Field_hasPair w D p1 x1 x2) (fun v2 D3 => (if v2 = 0 then some (.inr "java/lang/IndexOutOfBoundsException", D3) else zci (f_Ears_pairOf w D3 x1 x2) (fun v4 D5 => (if x3 = (0 : Int32) then zref w 0 1 a (fun p6 => zref w 3 4 p6 (fun p7 => zref w 1 0 p7 (fun p8 => zald w D5 0 p8 v4 (fun v9 => some (.inl v9, D5))))) else (if x3 = (1 : Int32) then zref w 0 1 a (fun p10 => zref w 3 4 p10 (fun p11 => zref w 1 1 p11 (fun p12 => zald w D5 0 p12 v4 (fun v13 => some (.inl v13, D5))))) else (if x3 = (2 : Int32) then zref w 0 1 a (fun p14 => zref w 3 4 p14 (fun p15 => zref w 1 2 p15 (fun p16 => zald w D5 0 p16 v4 (fun v17 => some (.inl v17, D5))))) else (if x3 = (3 : Int32) then zref w 0 1 a (fun p18 => zref w 3 4 p18 (fun p19 => zref w 1 3 p19 (fun p20 => zald w D5 0 p20 v4 (fun v21 => some (.inl v21, D5))))) else (if x3 = (4 : Int32) then zref w 0 1 a (fun p22 => zref w 3 4 p22 (fun p23 => zref w 1 4 p23 (fun p24 => zald w D5 0 p24 v4 (fun v25 => some (.inl v25, D5))))) else (if x3 = (5 : Int32) then zref w 0 1 a (fun p26 => zobj w 3 p26 (zci (f_Field_soundOf w D5 p26 x1 x2) (fun v27 D28 => some (.inl v27, D28)))) else some (.inr "java/lang/IllegalArgumentException", D5))))))))))))
set_option maxHeartbeats 4000000 in
set_option maxRecDepth 100000 in
theorem c_SF_heard (z : zT) (D : zD) (a : Nat) (x1 : Int32) (x2 : Int32) (x3 : Int32) : zMX Y_SF_heard 8 1 6 (zqX z) (f_SF_heard z.2 D a x1 x2 x3) [.ref a, .int x1, .int x2, .int x3] z D := by
  refine zMX_of (plainFor_of_name (by decide +kernel)) rfl (Nat.le_of_ble_eq_true rfl) (fun K => ?_)
  unfold f_SF_heard
  refine z_aload_n (pc := 0) d_SF_heard_0 rfl 0 rfl ?_
  refine z_getR (pc := 1) fl_SF_19 d_SF_heard_1 (fun p1 => ?_)
  refine z_iload_n (pc := 4) d_SF_heard_4 rfl 1 rfl ?_
  refine z_iload_n (pc := 5) d_SF_heard_5 rfl 2 rfl ?_
  refine z_callVi (pc := 6) [.int x1, .int x2] lkV_SF_265 rfl (c_Field_hasPair z D p1 x1 x2) (by decide) rfl rfl (Nat.le_of_ble_eq_true rfl) d_SF_heard_6 (fun v2 D3 => ?_)
  refine z_if_ne (pc := 9) (tgt := 23) d_SF_heard_9 (by decide) ?_ ?_
  · exact z_throwW (pc := 12) th_SF_178_269_182 rfl (by decide) (Nat.le_of_ble_eq_true rfl) (by decide) (by decide) d_SF_heard_12 d_SF_heard_15 d_SF_heard_16 d_SF_heard_19 d_SF_heard_22
  · refine z_iload_n (pc := 23) d_SF_heard_23 rfl 1 rfl ?_
    refine z_iload_n (pc := 24) d_SF_heard_24 rfl 2 rfl ?_
    refine z_callSi (pc := 25) [.int x1, .int x2] lkS_SF_271 (c_Ears_pairOf z D3 x1 x2) (by decide) rfl rfl (Nat.le_of_ble_eq_true rfl) d_SF_heard_25 (fun v4 D5 => ?_)
    refine z_istore (pc := 28) d_SF_heard_28 (by decide) (lv' := [(4, .int v4), (0, .ref a), (1, .int x1), (2, .int x2), (3, .int x3)]) rfl ?_
    refine z_iload_n (pc := 30) d_SF_heard_30 rfl 4 rfl ?_
    refine z_case (fun e0 => ?_) (fun e0 => ?_)
    · refine z_tableIn (pc := 31) (tgt := 68) d_SF_heard_31 e0 (by decide) (by decide) rfl (by decide) ?_
      refine z_aload_n (pc := 68) d_SF_heard_68 rfl 1 rfl ?_
      refine z_getR (pc := 69) fl_SF_19 d_SF_heard_69 (fun p6 => ?_)
      refine z_getR (pc := 72) fl_SF_154 d_SF_heard_72 (fun p7 => ?_)
      refine z_getR (pc := 75) fl_SF_274 d_SF_heard_75 (fun p8 => ?_)
      refine z_iload (pc := 78) d_SF_heard_78 0 rfl ?_
      refine z_iaload (pc := 80) d_SF_heard_80 (fun v9 => ?_)
      exact z_xret (pc := 81) d_SF_heard_81 rfl
    · refine z_case (fun e1 => ?_) (fun e1 => ?_)
      · refine z_tableIn (pc := 31) (tgt := 82) d_SF_heard_31 e1 (by decide) (by decide) rfl (by decide) ?_
        refine z_aload_n (pc := 82) d_SF_heard_82 rfl 1 rfl ?_
        refine z_getR (pc := 83) fl_SF_19 d_SF_heard_83 (fun p10 => ?_)
        refine z_getR (pc := 86) fl_SF_154 d_SF_heard_86 (fun p11 => ?_)
        refine z_getR (pc := 89) fl_SF_277 d_SF_heard_89 (fun p12 => ?_)
        refine z_iload (pc := 92) d_SF_heard_92 0 rfl ?_
        refine z_iaload (pc := 94) d_SF_heard_94 (fun v13 => ?_)
        exact z_xret (pc := 95) d_SF_heard_95 rfl
      · refine z_case (fun e2 => ?_) (fun e2 => ?_)
        · refine z_tableIn (pc := 31) (tgt := 96) d_SF_heard_31 e2 (by decide) (by decide) rfl (by decide) ?_
          refine z_aload_n (pc := 96) d_SF_heard_96 rfl 1 rfl ?_
          refine z_getR (pc := 97) fl_SF_19 d_SF_heard_97 (fun p14 => ?_)
          refine z_getR (pc := 100) fl_SF_154 d_SF_heard_100 (fun p15 => ?_)
          refine z_getR (pc := 103) fl_SF_280 d_SF_heard_103 (fun p16 => ?_)
          refine z_iload (pc := 106) d_SF_heard_106 0 rfl ?_
          refine z_iaload (pc := 108) d_SF_heard_108 (fun v17 => ?_)
          exact z_xret (pc := 109) d_SF_heard_109 rfl
        · refine z_case (fun e3 => ?_) (fun e3 => ?_)
          · refine z_tableIn (pc := 31) (tgt := 110) d_SF_heard_31 e3 (by decide) (by decide) rfl (by decide) ?_
            refine z_aload_n (pc := 110) d_SF_heard_110 rfl 1 rfl ?_
            refine z_getR (pc := 111) fl_SF_19 d_SF_heard_111 (fun p18 => ?_)
            refine z_getR (pc := 114) fl_SF_154 d_SF_heard_114 (fun p19 => ?_)
            refine z_getR (pc := 117) fl_SF_283 d_SF_heard_117 (fun p20 => ?_)
            refine z_iload (pc := 120) d_SF_heard_120 0 rfl ?_
            refine z_iaload (pc := 122) d_SF_heard_122 (fun v21 => ?_)
            exact z_xret (pc := 123) d_SF_heard_123 rfl
          · refine z_case (fun e4 => ?_) (fun e4 => ?_)
            · refine z_tableIn (pc := 31) (tgt := 124) d_SF_heard_31 e4 (by decide) (by decide) rfl (by decide) ?_
              refine z_aload_n (pc := 124) d_SF_heard_124 rfl 1 rfl ?_
              refine z_getR (pc := 125) fl_SF_19 d_SF_heard_125 (fun p22 => ?_)
              refine z_getR (pc := 128) fl_SF_154 d_SF_heard_128 (fun p23 => ?_)
              refine z_getR (pc := 131) fl_SF_286 d_SF_heard_131 (fun p24 => ?_)
              refine z_iload (pc := 134) d_SF_heard_134 0 rfl ?_
              refine z_iaload (pc := 136) d_SF_heard_136 (fun v25 => ?_)
              exact z_xret (pc := 137) d_SF_heard_137 rfl
            · refine z_case (fun e5 => ?_) (fun e5 => ?_)
              · refine z_tableIn (pc := 31) (tgt := 138) d_SF_heard_31 e5 (by decide) (by decide) rfl (by decide) ?_
                refine z_aload_n (pc := 138) d_SF_heard_138 rfl 1 rfl ?_
                refine z_getR (pc := 139) fl_SF_19 d_SF_heard_139 (fun p26 => ?_)
                refine z_iload_n (pc := 142) d_SF_heard_142 rfl 2 rfl ?_
                refine z_iload_n (pc := 143) d_SF_heard_143 rfl 3 rfl ?_
                refine z_callVi (pc := 144) [.int x1, .int x2] lkV_SF_289 rfl (c_Field_soundOf z D5 p26 x1 x2) (by decide) rfl rfl (Nat.le_of_ble_eq_true rfl) d_SF_heard_144 (fun v27 D28 => ?_)
                exact z_xret (pc := 147) d_SF_heard_147 rfl
              · refine z_tableOut (pc := 31) (tgt := 148) d_SF_heard_31 (by have g0 := z_neI e0 (n := 0) rfl; have g1 := z_neI e1 (n := 1) rfl; have g2 := z_neI e2 (n := 2) rfl; have g3 := z_neI e3 (n := 3) rfl; have g4 := z_neI e4 (n := 4) rfl; have g5 := z_neI e5 (n := 5) rfl; omega) (by decide) ?_
                exact z_throw (pc := 148) th_SF_44_234_48 rfl (by decide) (Nat.le_of_ble_eq_true rfl) (by decide) (by decide) d_SF_heard_148 d_SF_heard_151 d_SF_heard_152 d_SF_heard_154 d_SF_heard_157
theorem d_SF_siren_0 : decode Y_SF_siren.2.1 0 = .ok (.iload_n 1, 1) := by decide +kernel
theorem d_SF_siren_1 : decode Y_SF_siren.2.1 1 = .ok (.bipush (-30), 2) := by decide +kernel
theorem d_SF_siren_3 : decode Y_SF_siren.2.1 3 = .ok (.bipush (30), 2) := by decide +kernel
theorem d_SF_siren_5 : decode Y_SF_siren.2.1 5 = .ok (.invokestatic 40, 3) := by decide +kernel
theorem d_SF_siren_8 : decode Y_SF_siren.2.1 8 = .ok (.ifCond .eq (14), 3) := by decide +kernel
theorem d_SF_siren_11 : decode Y_SF_siren.2.1 11 = .ok (.iload_n 2, 1) := by decide +kernel
theorem d_SF_siren_12 : decode Y_SF_siren.2.1 12 = .ok (.bipush (-30), 2) := by decide +kernel
theorem d_SF_siren_14 : decode Y_SF_siren.2.1 14 = .ok (.bipush (30), 2) := by decide +kernel
theorem d_SF_siren_16 : decode Y_SF_siren.2.1 16 = .ok (.invokestatic 40, 3) := by decide +kernel
theorem d_SF_siren_19 : decode Y_SF_siren.2.1 19 = .ok (.ifCond .ne (14), 3) := by decide +kernel
theorem d_SF_siren_22 : decode Y_SF_siren.2.1 22 = .ok (.new 44, 3) := by decide +kernel
theorem d_SF_siren_25 : decode Y_SF_siren.2.1 25 = .ok (.dup, 1) := by decide +kernel
theorem d_SF_siren_26 : decode Y_SF_siren.2.1 26 = .ok (.ldc_w 292, 3) := by decide +kernel
theorem d_SF_siren_29 : decode Y_SF_siren.2.1 29 = .ok (.invokespecial 48, 3) := by decide +kernel
theorem d_SF_siren_32 : decode Y_SF_siren.2.1 32 = .ok (.athrow, 1) := by decide +kernel
theorem d_SF_siren_33 : decode Y_SF_siren.2.1 33 = .ok (.iload_n 3, 1) := by decide +kernel
theorem d_SF_siren_34 : decode Y_SF_siren.2.1 34 = .ok (.iconst (1), 1) := by decide +kernel
theorem d_SF_siren_35 : decode Y_SF_siren.2.1 35 = .ok (.iconst (5), 1) := by decide +kernel
theorem d_SF_siren_36 : decode Y_SF_siren.2.1 36 = .ok (.invokestatic 40, 3) := by decide +kernel
theorem d_SF_siren_39 : decode Y_SF_siren.2.1 39 = .ok (.ifCond .eq (25), 3) := by decide +kernel
theorem d_SF_siren_42 : decode Y_SF_siren.2.1 42 = .ok (.iload 4, 2) := by decide +kernel
theorem d_SF_siren_44 : decode Y_SF_siren.2.1 44 = .ok (.bipush (-3), 2) := by decide +kernel
theorem d_SF_siren_46 : decode Y_SF_siren.2.1 46 = .ok (.iconst (3), 1) := by decide +kernel
theorem d_SF_siren_47 : decode Y_SF_siren.2.1 47 = .ok (.invokestatic 40, 3) := by decide +kernel
theorem d_SF_siren_50 : decode Y_SF_siren.2.1 50 = .ok (.ifCond .eq (14), 3) := by decide +kernel
theorem d_SF_siren_53 : decode Y_SF_siren.2.1 53 = .ok (.iload 5, 2) := by decide +kernel
theorem d_SF_siren_55 : decode Y_SF_siren.2.1 55 = .ok (.iconst (1), 1) := by decide +kernel
theorem d_SF_siren_56 : decode Y_SF_siren.2.1 56 = .ok (.bipush (20), 2) := by decide +kernel
theorem d_SF_siren_58 : decode Y_SF_siren.2.1 58 = .ok (.invokestatic 40, 3) := by decide +kernel
theorem d_SF_siren_61 : decode Y_SF_siren.2.1 61 = .ok (.ifCond .ne (14), 3) := by decide +kernel
theorem d_SF_siren_64 : decode Y_SF_siren.2.1 64 = .ok (.new 44, 3) := by decide +kernel
theorem d_SF_siren_67 : decode Y_SF_siren.2.1 67 = .ok (.dup, 1) := by decide +kernel
theorem d_SF_siren_68 : decode Y_SF_siren.2.1 68 = .ok (.ldc_w 294, 3) := by decide +kernel
theorem d_SF_siren_71 : decode Y_SF_siren.2.1 71 = .ok (.invokespecial 48, 3) := by decide +kernel
theorem d_SF_siren_74 : decode Y_SF_siren.2.1 74 = .ok (.athrow, 1) := by decide +kernel
theorem d_SF_siren_75 : decode Y_SF_siren.2.1 75 = .ok (.aload_n 0, 1) := by decide +kernel
theorem d_SF_siren_76 : decode Y_SF_siren.2.1 76 = .ok (.getfield 19, 3) := by decide +kernel
theorem d_SF_siren_79 : decode Y_SF_siren.2.1 79 = .ok (.getfield 98, 3) := by decide +kernel
theorem d_SF_siren_82 : decode Y_SF_siren.2.1 82 = .ok (.getfield 136, 3) := by decide +kernel
theorem d_SF_siren_85 : decode Y_SF_siren.2.1 85 = .ok (.iconst (4), 1) := by decide +kernel
theorem d_SF_siren_86 : decode Y_SF_siren.2.1 86 = .ok (.if_icmp .lt (14), 3) := by decide +kernel
theorem d_SF_siren_89 : decode Y_SF_siren.2.1 89 = .ok (.new 55, 3) := by decide +kernel
theorem d_SF_siren_92 : decode Y_SF_siren.2.1 92 = .ok (.dup, 1) := by decide +kernel
theorem d_SF_siren_93 : decode Y_SF_siren.2.1 93 = .ok (.ldc_w 296, 3) := by decide +kernel
theorem d_SF_siren_96 : decode Y_SF_siren.2.1 96 = .ok (.invokespecial 59, 3) := by decide +kernel
theorem d_SF_siren_99 : decode Y_SF_siren.2.1 99 = .ok (.athrow, 1) := by decide +kernel
theorem d_SF_siren_100 : decode Y_SF_siren.2.1 100 = .ok (.aload_n 0, 1) := by decide +kernel
theorem d_SF_siren_101 : decode Y_SF_siren.2.1 101 = .ok (.invokevirtual 298, 3) := by decide +kernel
theorem d_SF_siren_104 : decode Y_SF_siren.2.1 104 = .ok (.aload_n 0, 1) := by decide +kernel
theorem d_SF_siren_105 : decode Y_SF_siren.2.1 105 = .ok (.getfield 19, 3) := by decide +kernel
theorem d_SF_siren_108 : decode Y_SF_siren.2.1 108 = .ok (.getfield 98, 3) := by decide +kernel
theorem d_SF_siren_111 : decode Y_SF_siren.2.1 111 = .ok (.iload_n 1, 1) := by decide +kernel
theorem d_SF_siren_112 : decode Y_SF_siren.2.1 112 = .ok (.iload_n 2, 1) := by decide +kernel
theorem d_SF_siren_113 : decode Y_SF_siren.2.1 113 = .ok (.iload_n 3, 1) := by decide +kernel
theorem d_SF_siren_114 : decode Y_SF_siren.2.1 114 = .ok (.iload 4, 2) := by decide +kernel
theorem d_SF_siren_116 : decode Y_SF_siren.2.1 116 = .ok (.iload 5, 2) := by decide +kernel
theorem d_SF_siren_118 : decode Y_SF_siren.2.1 118 = .ok (.invokevirtual 102, 3) := by decide +kernel
theorem d_SF_siren_121 : decode Y_SF_siren.2.1 121 = .ok (.ireturn, 1) := by decide +kernel
def f_SF_siren (w : zW) (D : zD) (a : Nat) (x1 : Int32) (x2 : Int32) (x3 : Int32) (x4 : Int32) (x5 : Int32) : Option ((Int32 ⊕ String) × zD) := zjp (fun (D1 : zD) => some (.inr "java/lang/IllegalArgumentException", D1)) (fun j22 => zci (f_SF_isWithin w D x1 (-30 : Int32) (30 : Int32)) (fun v2 D3 => (if v2 = 0 then j22 D3 else zci (f_SF_isWithin w D3 x2 (-30 : Int32) (30 : Int32)) (fun v4 D5 => (if v4 = 0 then j22 D5 else zjp (fun (D6 : zD) => some (.inr "java/lang/IllegalArgumentException", D6)) (fun j64 => zci (f_SF_isWithin w D5 x3 (1 : Int32) (5 : Int32)) (fun v7 D8 => (if v7 = 0 then j64 D8 else zci (f_SF_isWithin w D8 x4 (-3 : Int32) (3 : Int32)) (fun v9 D10 => (if v9 = 0 then j64 D10 else zci (f_SF_isWithin w D10 x5 (1 : Int32) (20 : Int32)) (fun v11 D12 => (if v11 = 0 then j64 D12 else zref w 0 1 a (fun p13 => zref w 3 0 p13 (fun p14 => zfld w D12 6 7 p14 (fun v15 => (if v15 < (4 : Int32) then zobj w 0 a (zcv (f_SF_remember w D12 a ) (fun D16 => zref w 0 1 a (fun p17 => zref w 3 0 p17 (fun p18 => zobj w 6 p18 (zci (f_Sirens_add w D16 p18 x1 x2 x3 x4 x5) (fun v19 D20 => some (.inl v19, D20))))))) else some (.inr "java/lang/IllegalStateException", D12)))))))))))))))))
set_option maxHeartbeats 4000000 in
set_option maxRecDepth 100000 in
theorem c_SF_siren (z : zT) (D : zD) (a : Nat) (x1 : Int32) (x2 : Int32) (x3 : Int32) (x4 : Int32) (x5 : Int32) : zMX Y_SF_siren 8 1 6 (zqX z) (f_SF_siren z.2 D a x1 x2 x3 x4 x5) [.ref a, .int x1, .int x2, .int x3, .int x4, .int x5] z D := by
  refine zMX_of (plainFor_of_name (by decide +kernel)) rfl (Nat.le_of_ble_eq_true rfl) (fun K => ?_)
  unfold f_SF_siren
  refine z_jp (fun j22 : zD → Option ((Int32 ⊕ String) × zD) => ∀ (D1 : zD), zGO K Y_SF_siren 8 1 6 (zqX z) (j22  D1) 1 6 z D1 22 [] []) (fun  D1 => ?_) (fun j22 h22 => ?_)
  · exact z_throwW (pc := 22) th_SF_44_292_48 rfl (by decide) (Nat.le_of_ble_eq_true rfl) (by decide) (by decide) d_SF_siren_22 d_SF_siren_25 d_SF_siren_26 d_SF_siren_29 d_SF_siren_32
  · refine z_iload_n (pc := 0) d_SF_siren_0 rfl 1 rfl ?_
    refine z_bipush (pc := 1) d_SF_siren_1 kb_m30 ?_
    refine z_bipush (pc := 3) d_SF_siren_3 kb_30 ?_
    refine z_callSi (pc := 5) [.int x1, .int (-30 : Int32), .int (30 : Int32)] lkS_SF_40 (c_SF_isWithin z D x1 (-30 : Int32) (30 : Int32)) (by decide) rfl rfl (Nat.le_of_ble_eq_true rfl) d_SF_siren_5 (fun v2 D3 => ?_)
    refine z_if_eq (pc := 8) (tgt := 22) d_SF_siren_8 (by decide) ?_ ?_
    · exact z_sub [] rfl (h22 D3)
    · refine z_iload_n (pc := 11) d_SF_siren_11 rfl 2 rfl ?_
      refine z_bipush (pc := 12) d_SF_siren_12 kb_m30 ?_
      refine z_bipush (pc := 14) d_SF_siren_14 kb_30 ?_
      refine z_callSi (pc := 16) [.int x2, .int (-30 : Int32), .int (30 : Int32)] lkS_SF_40 (c_SF_isWithin z D3 x2 (-30 : Int32) (30 : Int32)) (by decide) rfl rfl (Nat.le_of_ble_eq_true rfl) d_SF_siren_16 (fun v4 D5 => ?_)
      refine z_if_ne (pc := 19) (tgt := 33) d_SF_siren_19 (by decide) ?_ ?_
      · exact z_sub [] rfl (h22 D5)
      · refine z_jp (fun j64 : zD → Option ((Int32 ⊕ String) × zD) => ∀ (D6 : zD), zGO K Y_SF_siren 8 1 6 (zqX z) (j64  D6) 1 6 z D6 64 [] []) (fun  D6 => ?_) (fun j64 h64 => ?_)
        · exact z_throwW (pc := 64) th_SF_44_294_48 rfl (by decide) (Nat.le_of_ble_eq_true rfl) (by decide) (by decide) d_SF_siren_64 d_SF_siren_67 d_SF_siren_68 d_SF_siren_71 d_SF_siren_74
        · refine z_iload_n (pc := 33) d_SF_siren_33 rfl 3 rfl ?_
          refine z_iconst (pc := 34) d_SF_siren_34 ki_1 ?_
          refine z_iconst (pc := 35) d_SF_siren_35 ki_5 ?_
          refine z_callSi (pc := 36) [.int x3, .int (1 : Int32), .int (5 : Int32)] lkS_SF_40 (c_SF_isWithin z D5 x3 (1 : Int32) (5 : Int32)) (by decide) rfl rfl (Nat.le_of_ble_eq_true rfl) d_SF_siren_36 (fun v7 D8 => ?_)
          refine z_if_eq (pc := 39) (tgt := 64) d_SF_siren_39 (by decide) ?_ ?_
          · exact z_sub [] rfl (h64 D8)
          · refine z_iload (pc := 42) d_SF_siren_42 4 rfl ?_
            refine z_bipush (pc := 44) d_SF_siren_44 kb_m3 ?_
            refine z_iconst (pc := 46) d_SF_siren_46 ki_3 ?_
            refine z_callSi (pc := 47) [.int x4, .int (-3 : Int32), .int (3 : Int32)] lkS_SF_40 (c_SF_isWithin z D8 x4 (-3 : Int32) (3 : Int32)) (by decide) rfl rfl (Nat.le_of_ble_eq_true rfl) d_SF_siren_47 (fun v9 D10 => ?_)
            refine z_if_eq (pc := 50) (tgt := 64) d_SF_siren_50 (by decide) ?_ ?_
            · exact z_sub [] rfl (h64 D10)
            · refine z_iload (pc := 53) d_SF_siren_53 5 rfl ?_
              refine z_iconst (pc := 55) d_SF_siren_55 ki_1 ?_
              refine z_bipush (pc := 56) d_SF_siren_56 kb_20 ?_
              refine z_callSi (pc := 58) [.int x5, .int (1 : Int32), .int (20 : Int32)] lkS_SF_40 (c_SF_isWithin z D10 x5 (1 : Int32) (20 : Int32)) (by decide) rfl rfl (Nat.le_of_ble_eq_true rfl) d_SF_siren_58 (fun v11 D12 => ?_)
              refine z_if_ne (pc := 61) (tgt := 75) d_SF_siren_61 (by decide) ?_ ?_
              · exact z_sub [] rfl (h64 D12)
              · refine z_aload_n (pc := 75) d_SF_siren_75 rfl 0 rfl ?_
                refine z_getR (pc := 76) fl_SF_19 d_SF_siren_76 (fun p13 => ?_)
                refine z_getR (pc := 79) fl_SF_98 d_SF_siren_79 (fun p14 => ?_)
                refine z_getI (pc := 82) fl_SF_136 d_SF_siren_82 (fun v15 => ?_)
                refine z_iconst (pc := 85) d_SF_siren_85 ki_4 ?_
                refine z_icmp_lt (pc := 86) (tgt := 100) d_SF_siren_86 (by decide) ?_ ?_
                · refine z_aload_n (pc := 100) d_SF_siren_100 rfl 0 rfl ?_
                  refine z_callVv (pc := 101) [] lkV_SF_298 rfl (c_SF_remember z D12 a ) (by decide) rfl rfl (Nat.le_of_ble_eq_true rfl) d_SF_siren_101 (fun D16 => ?_)
                  refine z_aload_n (pc := 104) d_SF_siren_104 rfl 0 rfl ?_
                  refine z_getR (pc := 105) fl_SF_19 d_SF_siren_105 (fun p17 => ?_)
                  refine z_getR (pc := 108) fl_SF_98 d_SF_siren_108 (fun p18 => ?_)
                  refine z_iload_n (pc := 111) d_SF_siren_111 rfl 1 rfl ?_
                  refine z_iload_n (pc := 112) d_SF_siren_112 rfl 2 rfl ?_
                  refine z_iload_n (pc := 113) d_SF_siren_113 rfl 3 rfl ?_
                  refine z_iload (pc := 114) d_SF_siren_114 4 rfl ?_
                  refine z_iload (pc := 116) d_SF_siren_116 5 rfl ?_
                  refine z_callVi (pc := 118) [.int x1, .int x2, .int x3, .int x4, .int x5] lkV_SF_102 rfl (c_Sirens_add z D16 p18 x1 x2 x3 x4 x5) (by decide) rfl rfl (Nat.le_of_ble_eq_true rfl) d_SF_siren_118 (fun v19 D20 => ?_)
                  exact z_xret (pc := 121) d_SF_siren_121 rfl
                · exact z_throwW (pc := 89) th_SF_55_296_59 rfl (by decide) (Nat.le_of_ble_eq_true rfl) (by decide) (by decide) d_SF_siren_89 d_SF_siren_92 d_SF_siren_93 d_SF_siren_96 d_SF_siren_99
theorem d_SF_hearer_0 : decode Y_SF_hearer.2.1 0 = .ok (.iload_n 1, 1) := by decide +kernel
theorem d_SF_hearer_1 : decode Y_SF_hearer.2.1 1 = .ok (.bipush (-40), 2) := by decide +kernel
theorem d_SF_hearer_3 : decode Y_SF_hearer.2.1 3 = .ok (.bipush (40), 2) := by decide +kernel
theorem d_SF_hearer_5 : decode Y_SF_hearer.2.1 5 = .ok (.invokestatic 40, 3) := by decide +kernel
theorem d_SF_hearer_8 : decode Y_SF_hearer.2.1 8 = .ok (.ifCond .eq (14), 3) := by decide +kernel
theorem d_SF_hearer_11 : decode Y_SF_hearer.2.1 11 = .ok (.iload_n 2, 1) := by decide +kernel
theorem d_SF_hearer_12 : decode Y_SF_hearer.2.1 12 = .ok (.bipush (-40), 2) := by decide +kernel
theorem d_SF_hearer_14 : decode Y_SF_hearer.2.1 14 = .ok (.bipush (40), 2) := by decide +kernel
theorem d_SF_hearer_16 : decode Y_SF_hearer.2.1 16 = .ok (.invokestatic 40, 3) := by decide +kernel
theorem d_SF_hearer_19 : decode Y_SF_hearer.2.1 19 = .ok (.ifCond .ne (14), 3) := by decide +kernel
theorem d_SF_hearer_22 : decode Y_SF_hearer.2.1 22 = .ok (.new 44, 3) := by decide +kernel
theorem d_SF_hearer_25 : decode Y_SF_hearer.2.1 25 = .ok (.dup, 1) := by decide +kernel
theorem d_SF_hearer_26 : decode Y_SF_hearer.2.1 26 = .ok (.ldc_w 301, 3) := by decide +kernel
theorem d_SF_hearer_29 : decode Y_SF_hearer.2.1 29 = .ok (.invokespecial 48, 3) := by decide +kernel
theorem d_SF_hearer_32 : decode Y_SF_hearer.2.1 32 = .ok (.athrow, 1) := by decide +kernel
theorem d_SF_hearer_33 : decode Y_SF_hearer.2.1 33 = .ok (.iload_n 3, 1) := by decide +kernel
theorem d_SF_hearer_34 : decode Y_SF_hearer.2.1 34 = .ok (.bipush (-2), 2) := by decide +kernel
theorem d_SF_hearer_36 : decode Y_SF_hearer.2.1 36 = .ok (.iconst (2), 1) := by decide +kernel
theorem d_SF_hearer_37 : decode Y_SF_hearer.2.1 37 = .ok (.invokestatic 40, 3) := by decide +kernel
theorem d_SF_hearer_40 : decode Y_SF_hearer.2.1 40 = .ok (.ifCond .eq (14), 3) := by decide +kernel
theorem d_SF_hearer_43 : decode Y_SF_hearer.2.1 43 = .ok (.iload 4, 2) := by decide +kernel
theorem d_SF_hearer_45 : decode Y_SF_hearer.2.1 45 = .ok (.bipush (-2), 2) := by decide +kernel
theorem d_SF_hearer_47 : decode Y_SF_hearer.2.1 47 = .ok (.iconst (2), 1) := by decide +kernel
theorem d_SF_hearer_48 : decode Y_SF_hearer.2.1 48 = .ok (.invokestatic 40, 3) := by decide +kernel
theorem d_SF_hearer_51 : decode Y_SF_hearer.2.1 51 = .ok (.ifCond .ne (14), 3) := by decide +kernel
theorem d_SF_hearer_54 : decode Y_SF_hearer.2.1 54 = .ok (.new 44, 3) := by decide +kernel
theorem d_SF_hearer_57 : decode Y_SF_hearer.2.1 57 = .ok (.dup, 1) := by decide +kernel
theorem d_SF_hearer_58 : decode Y_SF_hearer.2.1 58 = .ok (.ldc_w 303, 3) := by decide +kernel
theorem d_SF_hearer_61 : decode Y_SF_hearer.2.1 61 = .ok (.invokespecial 48, 3) := by decide +kernel
theorem d_SF_hearer_64 : decode Y_SF_hearer.2.1 64 = .ok (.athrow, 1) := by decide +kernel
theorem d_SF_hearer_65 : decode Y_SF_hearer.2.1 65 = .ok (.aload_n 0, 1) := by decide +kernel
theorem d_SF_hearer_66 : decode Y_SF_hearer.2.1 66 = .ok (.getfield 19, 3) := by decide +kernel
theorem d_SF_hearer_69 : decode Y_SF_hearer.2.1 69 = .ok (.getfield 107, 3) := by decide +kernel
theorem d_SF_hearer_72 : decode Y_SF_hearer.2.1 72 = .ok (.getfield 139, 3) := by decide +kernel
theorem d_SF_hearer_75 : decode Y_SF_hearer.2.1 75 = .ok (.iconst (4), 1) := by decide +kernel
theorem d_SF_hearer_76 : decode Y_SF_hearer.2.1 76 = .ok (.if_icmp .lt (14), 3) := by decide +kernel
theorem d_SF_hearer_79 : decode Y_SF_hearer.2.1 79 = .ok (.new 55, 3) := by decide +kernel
theorem d_SF_hearer_82 : decode Y_SF_hearer.2.1 82 = .ok (.dup, 1) := by decide +kernel
theorem d_SF_hearer_83 : decode Y_SF_hearer.2.1 83 = .ok (.ldc_w 305, 3) := by decide +kernel
theorem d_SF_hearer_86 : decode Y_SF_hearer.2.1 86 = .ok (.invokespecial 59, 3) := by decide +kernel
theorem d_SF_hearer_89 : decode Y_SF_hearer.2.1 89 = .ok (.athrow, 1) := by decide +kernel
theorem d_SF_hearer_90 : decode Y_SF_hearer.2.1 90 = .ok (.aload_n 0, 1) := by decide +kernel
theorem d_SF_hearer_91 : decode Y_SF_hearer.2.1 91 = .ok (.invokevirtual 298, 3) := by decide +kernel
theorem d_SF_hearer_94 : decode Y_SF_hearer.2.1 94 = .ok (.aload_n 0, 1) := by decide +kernel
theorem d_SF_hearer_95 : decode Y_SF_hearer.2.1 95 = .ok (.getfield 19, 3) := by decide +kernel
theorem d_SF_hearer_98 : decode Y_SF_hearer.2.1 98 = .ok (.getfield 107, 3) := by decide +kernel
theorem d_SF_hearer_101 : decode Y_SF_hearer.2.1 101 = .ok (.iload_n 1, 1) := by decide +kernel
theorem d_SF_hearer_102 : decode Y_SF_hearer.2.1 102 = .ok (.iload_n 2, 1) := by decide +kernel
theorem d_SF_hearer_103 : decode Y_SF_hearer.2.1 103 = .ok (.iload_n 3, 1) := by decide +kernel
theorem d_SF_hearer_104 : decode Y_SF_hearer.2.1 104 = .ok (.iload 4, 2) := by decide +kernel
theorem d_SF_hearer_106 : decode Y_SF_hearer.2.1 106 = .ok (.invokevirtual 111, 3) := by decide +kernel
theorem d_SF_hearer_109 : decode Y_SF_hearer.2.1 109 = .ok (.ireturn, 1) := by decide +kernel
def f_SF_hearer (w : zW) (D : zD) (a : Nat) (x1 : Int32) (x2 : Int32) (x3 : Int32) (x4 : Int32) : Option ((Int32 ⊕ String) × zD) := zjp (fun (D1 : zD) => some (.inr "java/lang/IllegalArgumentException", D1)) (fun j22 => zci (f_SF_isWithin w D x1 (-40 : Int32) (40 : Int32)) (fun v2 D3 => (if v2 = 0 then j22 D3 else zci (f_SF_isWithin w D3 x2 (-40 : Int32) (40 : Int32)) (fun v4 D5 => (if v4 = 0 then j22 D5 else zjp (fun (D6 : zD) => some (.inr "java/lang/IllegalArgumentException", D6)) (fun j54 => zci (f_SF_isWithin w D5 x3 (-2 : Int32) (2 : Int32)) (fun v7 D8 => (if v7 = 0 then j54 D8 else zci (f_SF_isWithin w D8 x4 (-2 : Int32) (2 : Int32)) (fun v9 D10 => (if v9 = 0 then j54 D10 else zref w 0 1 a (fun p11 => zref w 3 1 p11 (fun p12 => zfld w D10 4 6 p12 (fun v13 => (if v13 < (4 : Int32) then zobj w 0 a (zcv (f_SF_remember w D10 a ) (fun D14 => zref w 0 1 a (fun p15 => zref w 3 1 p15 (fun p16 => zobj w 4 p16 (zci (f_Hearers_add w D14 p16 x1 x2 x3 x4) (fun v17 D18 => some (.inl v17, D18))))))) else some (.inr "java/lang/IllegalStateException", D10)))))))))))))))
set_option maxHeartbeats 4000000 in
set_option maxRecDepth 100000 in
theorem c_SF_hearer (z : zT) (D : zD) (a : Nat) (x1 : Int32) (x2 : Int32) (x3 : Int32) (x4 : Int32) : zMX Y_SF_hearer 8 1 6 (zqX z) (f_SF_hearer z.2 D a x1 x2 x3 x4) [.ref a, .int x1, .int x2, .int x3, .int x4] z D := by
  refine zMX_of (plainFor_of_name (by decide +kernel)) rfl (Nat.le_of_ble_eq_true rfl) (fun K => ?_)
  unfold f_SF_hearer
  refine z_jp (fun j22 : zD → Option ((Int32 ⊕ String) × zD) => ∀ (D1 : zD), zGO K Y_SF_hearer 8 1 6 (zqX z) (j22  D1) 1 6 z D1 22 [] []) (fun  D1 => ?_) (fun j22 h22 => ?_)
  · exact z_throwW (pc := 22) th_SF_44_301_48 rfl (by decide) (Nat.le_of_ble_eq_true rfl) (by decide) (by decide) d_SF_hearer_22 d_SF_hearer_25 d_SF_hearer_26 d_SF_hearer_29 d_SF_hearer_32
  · refine z_iload_n (pc := 0) d_SF_hearer_0 rfl 1 rfl ?_
    refine z_bipush (pc := 1) d_SF_hearer_1 kb_m40 ?_
    refine z_bipush (pc := 3) d_SF_hearer_3 kb_40 ?_
    refine z_callSi (pc := 5) [.int x1, .int (-40 : Int32), .int (40 : Int32)] lkS_SF_40 (c_SF_isWithin z D x1 (-40 : Int32) (40 : Int32)) (by decide) rfl rfl (Nat.le_of_ble_eq_true rfl) d_SF_hearer_5 (fun v2 D3 => ?_)
    refine z_if_eq (pc := 8) (tgt := 22) d_SF_hearer_8 (by decide) ?_ ?_
    · exact z_sub [] rfl (h22 D3)
    · refine z_iload_n (pc := 11) d_SF_hearer_11 rfl 2 rfl ?_
      refine z_bipush (pc := 12) d_SF_hearer_12 kb_m40 ?_
      refine z_bipush (pc := 14) d_SF_hearer_14 kb_40 ?_
      refine z_callSi (pc := 16) [.int x2, .int (-40 : Int32), .int (40 : Int32)] lkS_SF_40 (c_SF_isWithin z D3 x2 (-40 : Int32) (40 : Int32)) (by decide) rfl rfl (Nat.le_of_ble_eq_true rfl) d_SF_hearer_16 (fun v4 D5 => ?_)
      refine z_if_ne (pc := 19) (tgt := 33) d_SF_hearer_19 (by decide) ?_ ?_
      · exact z_sub [] rfl (h22 D5)
      · refine z_jp (fun j54 : zD → Option ((Int32 ⊕ String) × zD) => ∀ (D6 : zD), zGO K Y_SF_hearer 8 1 6 (zqX z) (j54  D6) 1 6 z D6 54 [] []) (fun  D6 => ?_) (fun j54 h54 => ?_)
        · exact z_throwW (pc := 54) th_SF_44_303_48 rfl (by decide) (Nat.le_of_ble_eq_true rfl) (by decide) (by decide) d_SF_hearer_54 d_SF_hearer_57 d_SF_hearer_58 d_SF_hearer_61 d_SF_hearer_64
        · refine z_iload_n (pc := 33) d_SF_hearer_33 rfl 3 rfl ?_
          refine z_bipush (pc := 34) d_SF_hearer_34 kb_m2 ?_
          refine z_iconst (pc := 36) d_SF_hearer_36 ki_2 ?_
          refine z_callSi (pc := 37) [.int x3, .int (-2 : Int32), .int (2 : Int32)] lkS_SF_40 (c_SF_isWithin z D5 x3 (-2 : Int32) (2 : Int32)) (by decide) rfl rfl (Nat.le_of_ble_eq_true rfl) d_SF_hearer_37 (fun v7 D8 => ?_)
          refine z_if_eq (pc := 40) (tgt := 54) d_SF_hearer_40 (by decide) ?_ ?_
          · exact z_sub [] rfl (h54 D8)
          · refine z_iload (pc := 43) d_SF_hearer_43 4 rfl ?_
            refine z_bipush (pc := 45) d_SF_hearer_45 kb_m2 ?_
            refine z_iconst (pc := 47) d_SF_hearer_47 ki_2 ?_
            refine z_callSi (pc := 48) [.int x4, .int (-2 : Int32), .int (2 : Int32)] lkS_SF_40 (c_SF_isWithin z D8 x4 (-2 : Int32) (2 : Int32)) (by decide) rfl rfl (Nat.le_of_ble_eq_true rfl) d_SF_hearer_48 (fun v9 D10 => ?_)
            refine z_if_ne (pc := 51) (tgt := 65) d_SF_hearer_51 (by decide) ?_ ?_
            · exact z_sub [] rfl (h54 D10)
            · refine z_aload_n (pc := 65) d_SF_hearer_65 rfl 0 rfl ?_
              refine z_getR (pc := 66) fl_SF_19 d_SF_hearer_66 (fun p11 => ?_)
              refine z_getR (pc := 69) fl_SF_107 d_SF_hearer_69 (fun p12 => ?_)
              refine z_getI (pc := 72) fl_SF_139 d_SF_hearer_72 (fun v13 => ?_)
              refine z_iconst (pc := 75) d_SF_hearer_75 ki_4 ?_
              refine z_icmp_lt (pc := 76) (tgt := 90) d_SF_hearer_76 (by decide) ?_ ?_
              · refine z_aload_n (pc := 90) d_SF_hearer_90 rfl 0 rfl ?_
                refine z_callVv (pc := 91) [] lkV_SF_298 rfl (c_SF_remember z D10 a ) (by decide) rfl rfl (Nat.le_of_ble_eq_true rfl) d_SF_hearer_91 (fun D14 => ?_)
                refine z_aload_n (pc := 94) d_SF_hearer_94 rfl 0 rfl ?_
                refine z_getR (pc := 95) fl_SF_19 d_SF_hearer_95 (fun p15 => ?_)
                refine z_getR (pc := 98) fl_SF_107 d_SF_hearer_98 (fun p16 => ?_)
                refine z_iload_n (pc := 101) d_SF_hearer_101 rfl 1 rfl ?_
                refine z_iload_n (pc := 102) d_SF_hearer_102 rfl 2 rfl ?_
                refine z_iload_n (pc := 103) d_SF_hearer_103 rfl 3 rfl ?_
                refine z_iload (pc := 104) d_SF_hearer_104 4 rfl ?_
                refine z_callVi (pc := 106) [.int x1, .int x2, .int x3, .int x4] lkV_SF_111 rfl (c_Hearers_add z D14 p16 x1 x2 x3 x4) (by decide) rfl rfl (Nat.le_of_ble_eq_true rfl) d_SF_hearer_106 (fun v17 D18 => ?_)
                exact z_xret (pc := 109) d_SF_hearer_109 rfl
              · exact z_throwW (pc := 79) th_SF_55_305_59 rfl (by decide) (Nat.le_of_ble_eq_true rfl) (by decide) (by decide) d_SF_hearer_79 d_SF_hearer_82 d_SF_hearer_83 d_SF_hearer_86 d_SF_hearer_89
theorem d_SF_wall_0 : decode Y_SF_wall.2.1 0 = .ok (.iload_n 2, 1) := by decide +kernel
theorem d_SF_wall_1 : decode Y_SF_wall.2.1 1 = .ok (.bipush (-40), 2) := by decide +kernel
theorem d_SF_wall_3 : decode Y_SF_wall.2.1 3 = .ok (.bipush (40), 2) := by decide +kernel
theorem d_SF_wall_5 : decode Y_SF_wall.2.1 5 = .ok (.invokestatic 40, 3) := by decide +kernel
theorem d_SF_wall_8 : decode Y_SF_wall.2.1 8 = .ok (.ifCond .ne (14), 3) := by decide +kernel
theorem d_SF_wall_11 : decode Y_SF_wall.2.1 11 = .ok (.new 44, 3) := by decide +kernel
theorem d_SF_wall_14 : decode Y_SF_wall.2.1 14 = .ok (.dup, 1) := by decide +kernel
theorem d_SF_wall_15 : decode Y_SF_wall.2.1 15 = .ok (.ldc_w 307, 3) := by decide +kernel
theorem d_SF_wall_18 : decode Y_SF_wall.2.1 18 = .ok (.invokespecial 48, 3) := by decide +kernel
theorem d_SF_wall_21 : decode Y_SF_wall.2.1 21 = .ok (.athrow, 1) := by decide +kernel
theorem d_SF_wall_22 : decode Y_SF_wall.2.1 22 = .ok (.aload_n 0, 1) := by decide +kernel
theorem d_SF_wall_23 : decode Y_SF_wall.2.1 23 = .ok (.getfield 19, 3) := by decide +kernel
theorem d_SF_wall_26 : decode Y_SF_wall.2.1 26 = .ok (.getfield 116, 3) := by decide +kernel
theorem d_SF_wall_29 : decode Y_SF_wall.2.1 29 = .ok (.getfield 140, 3) := by decide +kernel
theorem d_SF_wall_32 : decode Y_SF_wall.2.1 32 = .ok (.iconst (3), 1) := by decide +kernel
theorem d_SF_wall_33 : decode Y_SF_wall.2.1 33 = .ok (.if_icmp .lt (14), 3) := by decide +kernel
theorem d_SF_wall_36 : decode Y_SF_wall.2.1 36 = .ok (.new 55, 3) := by decide +kernel
theorem d_SF_wall_39 : decode Y_SF_wall.2.1 39 = .ok (.dup, 1) := by decide +kernel
theorem d_SF_wall_40 : decode Y_SF_wall.2.1 40 = .ok (.ldc_w 309, 3) := by decide +kernel
theorem d_SF_wall_43 : decode Y_SF_wall.2.1 43 = .ok (.invokespecial 59, 3) := by decide +kernel
theorem d_SF_wall_46 : decode Y_SF_wall.2.1 46 = .ok (.athrow, 1) := by decide +kernel
theorem d_SF_wall_47 : decode Y_SF_wall.2.1 47 = .ok (.aload_n 0, 1) := by decide +kernel
theorem d_SF_wall_48 : decode Y_SF_wall.2.1 48 = .ok (.invokevirtual 298, 3) := by decide +kernel
theorem d_SF_wall_51 : decode Y_SF_wall.2.1 51 = .ok (.aload_n 0, 1) := by decide +kernel
theorem d_SF_wall_52 : decode Y_SF_wall.2.1 52 = .ok (.getfield 19, 3) := by decide +kernel
theorem d_SF_wall_55 : decode Y_SF_wall.2.1 55 = .ok (.getfield 116, 3) := by decide +kernel
theorem d_SF_wall_58 : decode Y_SF_wall.2.1 58 = .ok (.iload_n 1, 1) := by decide +kernel
theorem d_SF_wall_59 : decode Y_SF_wall.2.1 59 = .ok (.iload_n 2, 1) := by decide +kernel
theorem d_SF_wall_60 : decode Y_SF_wall.2.1 60 = .ok (.invokevirtual 120, 3) := by decide +kernel
theorem d_SF_wall_63 : decode Y_SF_wall.2.1 63 = .ok (.ireturn, 1) := by decide +kernel
def f_SF_wall (w : zW) (D : zD) (a : Nat) (x1 : Int32) (x2 : Int32) : Option ((Int32 ⊕ String) × zD) := zci (f_SF_isWithin w D x2 (-40 : Int32) (40 : Int32)) (fun v1 D2 => (if v1 = 0 then some (.inr "java/lang/IllegalArgumentException", D2) else zref w 0 1 a (fun p3 => zref w 3 2 p3 (fun p4 => zfld w D2 7 2 p4 (fun v5 => (if v5 < (3 : Int32) then zobj w 0 a (zcv (f_SF_remember w D2 a ) (fun D6 => zref w 0 1 a (fun p7 => zref w 3 2 p7 (fun p8 => zobj w 7 p8 (zci (f_Walls_add w D6 p8 x1 x2) (fun v9 D10 => some (.inl v9, D10))))))) else some (.inr "java/lang/IllegalStateException", D2)))))))
set_option maxHeartbeats 4000000 in
set_option maxRecDepth 100000 in
theorem c_SF_wall (z : zT) (D : zD) (a : Nat) (x1 : Int32) (x2 : Int32) : zMX Y_SF_wall 8 1 6 (zqX z) (f_SF_wall z.2 D a x1 x2) [.ref a, .int x1, .int x2] z D := by
  refine zMX_of (plainFor_of_name (by decide +kernel)) rfl (Nat.le_of_ble_eq_true rfl) (fun K => ?_)
  unfold f_SF_wall
  refine z_iload_n (pc := 0) d_SF_wall_0 rfl 2 rfl ?_
  refine z_bipush (pc := 1) d_SF_wall_1 kb_m40 ?_
  refine z_bipush (pc := 3) d_SF_wall_3 kb_40 ?_
  refine z_callSi (pc := 5) [.int x2, .int (-40 : Int32), .int (40 : Int32)] lkS_SF_40 (c_SF_isWithin z D x2 (-40 : Int32) (40 : Int32)) (by decide) rfl rfl (Nat.le_of_ble_eq_true rfl) d_SF_wall_5 (fun v1 D2 => ?_)
  refine z_if_ne (pc := 8) (tgt := 22) d_SF_wall_8 (by decide) ?_ ?_
  · exact z_throwW (pc := 11) th_SF_44_307_48 rfl (by decide) (Nat.le_of_ble_eq_true rfl) (by decide) (by decide) d_SF_wall_11 d_SF_wall_14 d_SF_wall_15 d_SF_wall_18 d_SF_wall_21
  · refine z_aload_n (pc := 22) d_SF_wall_22 rfl 0 rfl ?_
    refine z_getR (pc := 23) fl_SF_19 d_SF_wall_23 (fun p3 => ?_)
    refine z_getR (pc := 26) fl_SF_116 d_SF_wall_26 (fun p4 => ?_)
    refine z_getI (pc := 29) fl_SF_140 d_SF_wall_29 (fun v5 => ?_)
    refine z_iconst (pc := 32) d_SF_wall_32 ki_3 ?_
    refine z_icmp_lt (pc := 33) (tgt := 47) d_SF_wall_33 (by decide) ?_ ?_
    · refine z_aload_n (pc := 47) d_SF_wall_47 rfl 0 rfl ?_
      refine z_callVv (pc := 48) [] lkV_SF_298 rfl (c_SF_remember z D2 a ) (by decide) rfl rfl (Nat.le_of_ble_eq_true rfl) d_SF_wall_48 (fun D6 => ?_)
      refine z_aload_n (pc := 51) d_SF_wall_51 rfl 0 rfl ?_
      refine z_getR (pc := 52) fl_SF_19 d_SF_wall_52 (fun p7 => ?_)
      refine z_getR (pc := 55) fl_SF_116 d_SF_wall_55 (fun p8 => ?_)
      refine z_iload_n (pc := 58) d_SF_wall_58 rfl 1 rfl ?_
      refine z_iload_n (pc := 59) d_SF_wall_59 rfl 2 rfl ?_
      refine z_callVi (pc := 60) [.int x1, .int x2] lkV_SF_120 rfl (c_Walls_add z D6 p8 x1 x2) (by decide) rfl rfl (Nat.le_of_ble_eq_true rfl) d_SF_wall_60 (fun v9 D10 => ?_)
      exact z_xret (pc := 63) d_SF_wall_63 rfl
    · exact z_throwW (pc := 36) th_SF_55_309_59 rfl (by decide) (Nat.le_of_ble_eq_true rfl) (by decide) (by decide) d_SF_wall_36 d_SF_wall_39 d_SF_wall_40 d_SF_wall_43 d_SF_wall_46
theorem d_SF_turn_0 : decode Y_SF_turn.2.1 0 = .ok (.aload_n 0, 1) := by decide +kernel
theorem d_SF_turn_1 : decode Y_SF_turn.2.1 1 = .ok (.getfield 19, 3) := by decide +kernel
theorem d_SF_turn_4 : decode Y_SF_turn.2.1 4 = .ok (.getfield 98, 3) := by decide +kernel
theorem d_SF_turn_7 : decode Y_SF_turn.2.1 7 = .ok (.iload_n 1, 1) := by decide +kernel
theorem d_SF_turn_8 : decode Y_SF_turn.2.1 8 = .ok (.invokevirtual 174, 3) := by decide +kernel
theorem d_SF_turn_11 : decode Y_SF_turn.2.1 11 = .ok (.ifCond .ne (13), 3) := by decide +kernel
theorem d_SF_turn_14 : decode Y_SF_turn.2.1 14 = .ok (.new 178, 3) := by decide +kernel
theorem d_SF_turn_17 : decode Y_SF_turn.2.1 17 = .ok (.dup, 1) := by decide +kernel
theorem d_SF_turn_18 : decode Y_SF_turn.2.1 18 = .ok (.ldc 180, 2) := by decide +kernel
theorem d_SF_turn_20 : decode Y_SF_turn.2.1 20 = .ok (.invokespecial 182, 3) := by decide +kernel
theorem d_SF_turn_23 : decode Y_SF_turn.2.1 23 = .ok (.athrow, 1) := by decide +kernel
theorem d_SF_turn_24 : decode Y_SF_turn.2.1 24 = .ok (.aload_n 0, 1) := by decide +kernel
theorem d_SF_turn_25 : decode Y_SF_turn.2.1 25 = .ok (.invokevirtual 298, 3) := by decide +kernel
theorem d_SF_turn_28 : decode Y_SF_turn.2.1 28 = .ok (.aload_n 0, 1) := by decide +kernel
theorem d_SF_turn_29 : decode Y_SF_turn.2.1 29 = .ok (.getfield 19, 3) := by decide +kernel
theorem d_SF_turn_32 : decode Y_SF_turn.2.1 32 = .ok (.getfield 98, 3) := by decide +kernel
theorem d_SF_turn_35 : decode Y_SF_turn.2.1 35 = .ok (.iload_n 1, 1) := by decide +kernel
theorem d_SF_turn_36 : decode Y_SF_turn.2.1 36 = .ok (.iload_n 2, 1) := by decide +kernel
theorem d_SF_turn_37 : decode Y_SF_turn.2.1 37 = .ok (.invokevirtual 125, 3) := by decide +kernel
theorem d_SF_turn_40 : decode Y_SF_turn.2.1 40 = .ok (.pop, 1) := by decide +kernel
theorem d_SF_turn_41 : decode Y_SF_turn.2.1 41 = .ok (.aload_n 0, 1) := by decide +kernel
theorem d_SF_turn_42 : decode Y_SF_turn.2.1 42 = .ok (.getfield 19, 3) := by decide +kernel
theorem d_SF_turn_45 : decode Y_SF_turn.2.1 45 = .ok (.getfield 98, 3) := by decide +kernel
theorem d_SF_turn_48 : decode Y_SF_turn.2.1 48 = .ok (.invokevirtual 311, 3) := by decide +kernel
theorem d_SF_turn_51 : decode Y_SF_turn.2.1 51 = .ok (.ireturn, 1) := by decide +kernel
def f_SF_turn (w : zW) (D : zD) (a : Nat) (x1 : Int32) (x2 : Int32) : Option ((Int32 ⊕ String) × zD) := zref w 0 1 a (fun p1 => zref w 3 0 p1 (fun p2 => zobj w 6 p2 (zci (f_Sirens_has w D p2 x1) (fun v3 D4 => (if v3 = 0 then some (.inr "java/lang/IndexOutOfBoundsException", D4) else zobj w 0 a (zcv (f_SF_remember w D4 a ) (fun D5 => zref w 0 1 a (fun p6 => zref w 3 0 p6 (fun p7 => zobj w 6 p7 (zci (f_Sirens_turnTo w D5 p7 x1 x2) (fun v8 D9 => zref w 0 1 a (fun p10 => zref w 3 0 p10 (fun p11 => zobj w 6 p11 (zci (f_Sirens_howManyOn w D9 p11 ) (fun v12 D13 => some (.inl v12, D13))))))))))))))))
set_option maxHeartbeats 4000000 in
set_option maxRecDepth 100000 in
theorem c_SF_turn (z : zT) (D : zD) (a : Nat) (x1 : Int32) (x2 : Int32) : zMX Y_SF_turn 8 1 6 (zqX z) (f_SF_turn z.2 D a x1 x2) [.ref a, .int x1, .int x2] z D := by
  refine zMX_of (plainFor_of_name (by decide +kernel)) rfl (Nat.le_of_ble_eq_true rfl) (fun K => ?_)
  unfold f_SF_turn
  refine z_aload_n (pc := 0) d_SF_turn_0 rfl 0 rfl ?_
  refine z_getR (pc := 1) fl_SF_19 d_SF_turn_1 (fun p1 => ?_)
  refine z_getR (pc := 4) fl_SF_98 d_SF_turn_4 (fun p2 => ?_)
  refine z_iload_n (pc := 7) d_SF_turn_7 rfl 1 rfl ?_
  refine z_callVi (pc := 8) [.int x1] lkV_SF_174 rfl (c_Sirens_has z D p2 x1) (by decide) rfl rfl (Nat.le_of_ble_eq_true rfl) d_SF_turn_8 (fun v3 D4 => ?_)
  refine z_if_ne (pc := 11) (tgt := 24) d_SF_turn_11 (by decide) ?_ ?_
  · exact z_throw (pc := 14) th_SF_178_180_182 rfl (by decide) (Nat.le_of_ble_eq_true rfl) (by decide) (by decide) d_SF_turn_14 d_SF_turn_17 d_SF_turn_18 d_SF_turn_20 d_SF_turn_23
  · refine z_aload_n (pc := 24) d_SF_turn_24 rfl 0 rfl ?_
    refine z_callVv (pc := 25) [] lkV_SF_298 rfl (c_SF_remember z D4 a ) (by decide) rfl rfl (Nat.le_of_ble_eq_true rfl) d_SF_turn_25 (fun D5 => ?_)
    refine z_aload_n (pc := 28) d_SF_turn_28 rfl 0 rfl ?_
    refine z_getR (pc := 29) fl_SF_19 d_SF_turn_29 (fun p6 => ?_)
    refine z_getR (pc := 32) fl_SF_98 d_SF_turn_32 (fun p7 => ?_)
    refine z_iload_n (pc := 35) d_SF_turn_35 rfl 1 rfl ?_
    refine z_iload_n (pc := 36) d_SF_turn_36 rfl 2 rfl ?_
    refine z_callVi (pc := 37) [.int x1, .int x2] lkV_SF_125 rfl (c_Sirens_turnTo z D5 p7 x1 x2) (by decide) rfl rfl (Nat.le_of_ble_eq_true rfl) d_SF_turn_37 (fun v8 D9 => ?_)
    refine z_pop (pc := 40) d_SF_turn_40 rfl ?_
    refine z_aload_n (pc := 41) d_SF_turn_41 rfl 0 rfl ?_
    refine z_getR (pc := 42) fl_SF_19 d_SF_turn_42 (fun p10 => ?_)
    refine z_getR (pc := 45) fl_SF_98 d_SF_turn_45 (fun p11 => ?_)
    refine z_callVi (pc := 48) [] lkV_SF_311 rfl (c_Sirens_howManyOn z D9 p11 ) (by decide) rfl rfl (Nat.le_of_ble_eq_true rfl) d_SF_turn_48 (fun v12 D13 => ?_)
    exact z_xret (pc := 51) d_SF_turn_51 rfl
theorem d_SF_walk_0 : decode Y_SF_walk.2.1 0 = .ok (.aload_n 0, 1) := by decide +kernel
theorem d_SF_walk_1 : decode Y_SF_walk.2.1 1 = .ok (.getfield 19, 3) := by decide +kernel
theorem d_SF_walk_4 : decode Y_SF_walk.2.1 4 = .ok (.getfield 107, 3) := by decide +kernel
theorem d_SF_walk_7 : decode Y_SF_walk.2.1 7 = .ok (.iload_n 1, 1) := by decide +kernel
theorem d_SF_walk_8 : decode Y_SF_walk.2.1 8 = .ok (.invokevirtual 216, 3) := by decide +kernel
theorem d_SF_walk_11 : decode Y_SF_walk.2.1 11 = .ok (.ifCond .ne (13), 3) := by decide +kernel
theorem d_SF_walk_14 : decode Y_SF_walk.2.1 14 = .ok (.new 178, 3) := by decide +kernel
theorem d_SF_walk_17 : decode Y_SF_walk.2.1 17 = .ok (.dup, 1) := by decide +kernel
theorem d_SF_walk_18 : decode Y_SF_walk.2.1 18 = .ok (.ldc 217, 2) := by decide +kernel
theorem d_SF_walk_20 : decode Y_SF_walk.2.1 20 = .ok (.invokespecial 182, 3) := by decide +kernel
theorem d_SF_walk_23 : decode Y_SF_walk.2.1 23 = .ok (.athrow, 1) := by decide +kernel
theorem d_SF_walk_24 : decode Y_SF_walk.2.1 24 = .ok (.iload_n 2, 1) := by decide +kernel
theorem d_SF_walk_25 : decode Y_SF_walk.2.1 25 = .ok (.bipush (-2), 2) := by decide +kernel
theorem d_SF_walk_27 : decode Y_SF_walk.2.1 27 = .ok (.iconst (2), 1) := by decide +kernel
theorem d_SF_walk_28 : decode Y_SF_walk.2.1 28 = .ok (.invokestatic 40, 3) := by decide +kernel
theorem d_SF_walk_31 : decode Y_SF_walk.2.1 31 = .ok (.ifCond .eq (13), 3) := by decide +kernel
theorem d_SF_walk_34 : decode Y_SF_walk.2.1 34 = .ok (.iload_n 3, 1) := by decide +kernel
theorem d_SF_walk_35 : decode Y_SF_walk.2.1 35 = .ok (.bipush (-2), 2) := by decide +kernel
theorem d_SF_walk_37 : decode Y_SF_walk.2.1 37 = .ok (.iconst (2), 1) := by decide +kernel
theorem d_SF_walk_38 : decode Y_SF_walk.2.1 38 = .ok (.invokestatic 40, 3) := by decide +kernel
theorem d_SF_walk_41 : decode Y_SF_walk.2.1 41 = .ok (.ifCond .ne (14), 3) := by decide +kernel
theorem d_SF_walk_44 : decode Y_SF_walk.2.1 44 = .ok (.new 44, 3) := by decide +kernel
theorem d_SF_walk_47 : decode Y_SF_walk.2.1 47 = .ok (.dup, 1) := by decide +kernel
theorem d_SF_walk_48 : decode Y_SF_walk.2.1 48 = .ok (.ldc_w 303, 3) := by decide +kernel
theorem d_SF_walk_51 : decode Y_SF_walk.2.1 51 = .ok (.invokespecial 48, 3) := by decide +kernel
theorem d_SF_walk_54 : decode Y_SF_walk.2.1 54 = .ok (.athrow, 1) := by decide +kernel
theorem d_SF_walk_55 : decode Y_SF_walk.2.1 55 = .ok (.aload_n 0, 1) := by decide +kernel
theorem d_SF_walk_56 : decode Y_SF_walk.2.1 56 = .ok (.invokevirtual 298, 3) := by decide +kernel
theorem d_SF_walk_59 : decode Y_SF_walk.2.1 59 = .ok (.aload_n 0, 1) := by decide +kernel
theorem d_SF_walk_60 : decode Y_SF_walk.2.1 60 = .ok (.getfield 19, 3) := by decide +kernel
theorem d_SF_walk_63 : decode Y_SF_walk.2.1 63 = .ok (.getfield 107, 3) := by decide +kernel
theorem d_SF_walk_66 : decode Y_SF_walk.2.1 66 = .ok (.iload_n 1, 1) := by decide +kernel
theorem d_SF_walk_67 : decode Y_SF_walk.2.1 67 = .ok (.iload_n 2, 1) := by decide +kernel
theorem d_SF_walk_68 : decode Y_SF_walk.2.1 68 = .ok (.iload_n 3, 1) := by decide +kernel
theorem d_SF_walk_69 : decode Y_SF_walk.2.1 69 = .ok (.invokevirtual 314, 3) := by decide +kernel
theorem d_SF_walk_72 : decode Y_SF_walk.2.1 72 = .ok (.pop, 1) := by decide +kernel
theorem d_SF_walk_73 : decode Y_SF_walk.2.1 73 = .ok (.aload_n 0, 1) := by decide +kernel
theorem d_SF_walk_74 : decode Y_SF_walk.2.1 74 = .ok (.getfield 19, 3) := by decide +kernel
theorem d_SF_walk_77 : decode Y_SF_walk.2.1 77 = .ok (.getfield 107, 3) := by decide +kernel
theorem d_SF_walk_80 : decode Y_SF_walk.2.1 80 = .ok (.getfield 219, 3) := by decide +kernel
theorem d_SF_walk_83 : decode Y_SF_walk.2.1 83 = .ok (.iload_n 1, 1) := by decide +kernel
theorem d_SF_walk_84 : decode Y_SF_walk.2.1 84 = .ok (.iaload, 1) := by decide +kernel
theorem d_SF_walk_85 : decode Y_SF_walk.2.1 85 = .ok (.ireturn, 1) := by decide +kernel
def f_SF_walk (w : zW) (D : zD) (a : Nat) (x1 : Int32) (x2 : Int32) (x3 : Int32) : Option ((Int32 ⊕ String) × zD) := zref w 0 1 a (fun p1 => zref w 3 1 p1 (fun p2 => zobj w 4 p2 (zci (f_Hearers_has w D p2 x1) (fun v3 D4 => (if v3 = 0 then some (.inr "java/lang/IndexOutOfBoundsException", D4) else zjp (fun (D5 : zD) => some (.inr "java/lang/IllegalArgumentException", D5)) (fun j44 => zci (f_SF_isWithin w D4 x2 (-2 : Int32) (2 : Int32)) (fun v6 D7 => (if v6 = 0 then j44 D7 else zci (f_SF_isWithin w D7 x3 (-2 : Int32) (2 : Int32)) (fun v8 D9 => (if v8 = 0 then j44 D9 else zobj w 0 a (zcv (f_SF_remember w D9 a ) (fun D10 => zref w 0 1 a (fun p11 => zref w 3 1 p11 (fun p12 => zobj w 4 p12 (zci (f_Hearers_send w D10 p12 x1 x2 x3) (fun v13 D14 => zref w 0 1 a (fun p15 => zref w 3 1 p15 (fun p16 => zref w 4 0 p16 (fun p17 => zald w D14 0 p17 x1 (fun v18 => some (.inl v18, D14)))))))))))))))))))))
set_option maxHeartbeats 4000000 in
set_option maxRecDepth 100000 in
theorem c_SF_walk (z : zT) (D : zD) (a : Nat) (x1 : Int32) (x2 : Int32) (x3 : Int32) : zMX Y_SF_walk 8 1 6 (zqX z) (f_SF_walk z.2 D a x1 x2 x3) [.ref a, .int x1, .int x2, .int x3] z D := by
  refine zMX_of (plainFor_of_name (by decide +kernel)) rfl (Nat.le_of_ble_eq_true rfl) (fun K => ?_)
  unfold f_SF_walk
  refine z_aload_n (pc := 0) d_SF_walk_0 rfl 0 rfl ?_
  refine z_getR (pc := 1) fl_SF_19 d_SF_walk_1 (fun p1 => ?_)
  refine z_getR (pc := 4) fl_SF_107 d_SF_walk_4 (fun p2 => ?_)
  refine z_iload_n (pc := 7) d_SF_walk_7 rfl 1 rfl ?_
  refine z_callVi (pc := 8) [.int x1] lkV_SF_216 rfl (c_Hearers_has z D p2 x1) (by decide) rfl rfl (Nat.le_of_ble_eq_true rfl) d_SF_walk_8 (fun v3 D4 => ?_)
  refine z_if_ne (pc := 11) (tgt := 24) d_SF_walk_11 (by decide) ?_ ?_
  · exact z_throw (pc := 14) th_SF_178_217_182 rfl (by decide) (Nat.le_of_ble_eq_true rfl) (by decide) (by decide) d_SF_walk_14 d_SF_walk_17 d_SF_walk_18 d_SF_walk_20 d_SF_walk_23
  · refine z_jp (fun j44 : zD → Option ((Int32 ⊕ String) × zD) => ∀ (D5 : zD), zGO K Y_SF_walk 8 1 6 (zqX z) (j44  D5) 1 6 z D5 44 [] []) (fun  D5 => ?_) (fun j44 h44 => ?_)
    · exact z_throwW (pc := 44) th_SF_44_303_48 rfl (by decide) (Nat.le_of_ble_eq_true rfl) (by decide) (by decide) d_SF_walk_44 d_SF_walk_47 d_SF_walk_48 d_SF_walk_51 d_SF_walk_54
    · refine z_iload_n (pc := 24) d_SF_walk_24 rfl 2 rfl ?_
      refine z_bipush (pc := 25) d_SF_walk_25 kb_m2 ?_
      refine z_iconst (pc := 27) d_SF_walk_27 ki_2 ?_
      refine z_callSi (pc := 28) [.int x2, .int (-2 : Int32), .int (2 : Int32)] lkS_SF_40 (c_SF_isWithin z D4 x2 (-2 : Int32) (2 : Int32)) (by decide) rfl rfl (Nat.le_of_ble_eq_true rfl) d_SF_walk_28 (fun v6 D7 => ?_)
      refine z_if_eq (pc := 31) (tgt := 44) d_SF_walk_31 (by decide) ?_ ?_
      · exact z_sub [] rfl (h44 D7)
      · refine z_iload_n (pc := 34) d_SF_walk_34 rfl 3 rfl ?_
        refine z_bipush (pc := 35) d_SF_walk_35 kb_m2 ?_
        refine z_iconst (pc := 37) d_SF_walk_37 ki_2 ?_
        refine z_callSi (pc := 38) [.int x3, .int (-2 : Int32), .int (2 : Int32)] lkS_SF_40 (c_SF_isWithin z D7 x3 (-2 : Int32) (2 : Int32)) (by decide) rfl rfl (Nat.le_of_ble_eq_true rfl) d_SF_walk_38 (fun v8 D9 => ?_)
        refine z_if_ne (pc := 41) (tgt := 55) d_SF_walk_41 (by decide) ?_ ?_
        · exact z_sub [] rfl (h44 D9)
        · refine z_aload_n (pc := 55) d_SF_walk_55 rfl 0 rfl ?_
          refine z_callVv (pc := 56) [] lkV_SF_298 rfl (c_SF_remember z D9 a ) (by decide) rfl rfl (Nat.le_of_ble_eq_true rfl) d_SF_walk_56 (fun D10 => ?_)
          refine z_aload_n (pc := 59) d_SF_walk_59 rfl 0 rfl ?_
          refine z_getR (pc := 60) fl_SF_19 d_SF_walk_60 (fun p11 => ?_)
          refine z_getR (pc := 63) fl_SF_107 d_SF_walk_63 (fun p12 => ?_)
          refine z_iload_n (pc := 66) d_SF_walk_66 rfl 1 rfl ?_
          refine z_iload_n (pc := 67) d_SF_walk_67 rfl 2 rfl ?_
          refine z_iload_n (pc := 68) d_SF_walk_68 rfl 3 rfl ?_
          refine z_callVi (pc := 69) [.int x1, .int x2, .int x3] lkV_SF_314 rfl (c_Hearers_send z D10 p12 x1 x2 x3) (by decide) rfl rfl (Nat.le_of_ble_eq_true rfl) d_SF_walk_69 (fun v13 D14 => ?_)
          refine z_pop (pc := 72) d_SF_walk_72 rfl ?_
          refine z_aload_n (pc := 73) d_SF_walk_73 rfl 0 rfl ?_
          refine z_getR (pc := 74) fl_SF_19 d_SF_walk_74 (fun p15 => ?_)
          refine z_getR (pc := 77) fl_SF_107 d_SF_walk_77 (fun p16 => ?_)
          refine z_getR (pc := 80) fl_SF_219 d_SF_walk_80 (fun p17 => ?_)
          refine z_iload_n (pc := 83) d_SF_walk_83 rfl 1 rfl ?_
          refine z_iaload (pc := 84) d_SF_walk_84 (fun v18 => ?_)
          exact z_xret (pc := 85) d_SF_walk_85 rfl
theorem d_SF_ticks_0 : decode Y_SF_ticks.2.1 0 = .ok (.iload_n 1, 1) := by decide +kernel
theorem d_SF_ticks_1 : decode Y_SF_ticks.2.1 1 = .ok (.iconst (1), 1) := by decide +kernel
theorem d_SF_ticks_2 : decode Y_SF_ticks.2.1 2 = .ok (.bipush (99), 2) := by decide +kernel
theorem d_SF_ticks_4 : decode Y_SF_ticks.2.1 4 = .ok (.invokestatic 40, 3) := by decide +kernel
theorem d_SF_ticks_7 : decode Y_SF_ticks.2.1 7 = .ok (.ifCond .ne (14), 3) := by decide +kernel
theorem d_SF_ticks_10 : decode Y_SF_ticks.2.1 10 = .ok (.new 44, 3) := by decide +kernel
theorem d_SF_ticks_13 : decode Y_SF_ticks.2.1 13 = .ok (.dup, 1) := by decide +kernel
theorem d_SF_ticks_14 : decode Y_SF_ticks.2.1 14 = .ok (.ldc_w 317, 3) := by decide +kernel
theorem d_SF_ticks_17 : decode Y_SF_ticks.2.1 17 = .ok (.invokespecial 48, 3) := by decide +kernel
theorem d_SF_ticks_20 : decode Y_SF_ticks.2.1 20 = .ok (.athrow, 1) := by decide +kernel
theorem d_SF_ticks_21 : decode Y_SF_ticks.2.1 21 = .ok (.aload_n 0, 1) := by decide +kernel
theorem d_SF_ticks_22 : decode Y_SF_ticks.2.1 22 = .ok (.invokevirtual 298, 3) := by decide +kernel
theorem d_SF_ticks_25 : decode Y_SF_ticks.2.1 25 = .ok (.aload_n 0, 1) := by decide +kernel
theorem d_SF_ticks_26 : decode Y_SF_ticks.2.1 26 = .ok (.getfield 19, 3) := by decide +kernel
theorem d_SF_ticks_29 : decode Y_SF_ticks.2.1 29 = .ok (.getfield 154, 3) := by decide +kernel
theorem d_SF_ticks_32 : decode Y_SF_ticks.2.1 32 = .ok (.getfield 158, 3) := by decide +kernel
theorem d_SF_ticks_35 : decode Y_SF_ticks.2.1 35 = .ok (.aload_n 0, 1) := by decide +kernel
theorem d_SF_ticks_36 : decode Y_SF_ticks.2.1 36 = .ok (.getfield 19, 3) := by decide +kernel
theorem d_SF_ticks_39 : decode Y_SF_ticks.2.1 39 = .ok (.getfield 154, 3) := by decide +kernel
theorem d_SF_ticks_42 : decode Y_SF_ticks.2.1 42 = .ok (.getfield 163, 3) := by decide +kernel
theorem d_SF_ticks_45 : decode Y_SF_ticks.2.1 45 = .ok (.iadd, 1) := by decide +kernel
theorem d_SF_ticks_46 : decode Y_SF_ticks.2.1 46 = .ok (.istore_n 2, 1) := by decide +kernel
theorem d_SF_ticks_47 : decode Y_SF_ticks.2.1 47 = .ok (.aload_n 0, 1) := by decide +kernel
theorem d_SF_ticks_48 : decode Y_SF_ticks.2.1 48 = .ok (.getfield 19, 3) := by decide +kernel
theorem d_SF_ticks_51 : decode Y_SF_ticks.2.1 51 = .ok (.iload_n 1, 1) := by decide +kernel
theorem d_SF_ticks_52 : decode Y_SF_ticks.2.1 52 = .ok (.invokevirtual 132, 3) := by decide +kernel
theorem d_SF_ticks_55 : decode Y_SF_ticks.2.1 55 = .ok (.aload_n 0, 1) := by decide +kernel
theorem d_SF_ticks_56 : decode Y_SF_ticks.2.1 56 = .ok (.getfield 19, 3) := by decide +kernel
theorem d_SF_ticks_59 : decode Y_SF_ticks.2.1 59 = .ok (.getfield 154, 3) := by decide +kernel
theorem d_SF_ticks_62 : decode Y_SF_ticks.2.1 62 = .ok (.getfield 158, 3) := by decide +kernel
theorem d_SF_ticks_65 : decode Y_SF_ticks.2.1 65 = .ok (.aload_n 0, 1) := by decide +kernel
theorem d_SF_ticks_66 : decode Y_SF_ticks.2.1 66 = .ok (.getfield 19, 3) := by decide +kernel
theorem d_SF_ticks_69 : decode Y_SF_ticks.2.1 69 = .ok (.getfield 154, 3) := by decide +kernel
theorem d_SF_ticks_72 : decode Y_SF_ticks.2.1 72 = .ok (.getfield 163, 3) := by decide +kernel
theorem d_SF_ticks_75 : decode Y_SF_ticks.2.1 75 = .ok (.iadd, 1) := by decide +kernel
theorem d_SF_ticks_76 : decode Y_SF_ticks.2.1 76 = .ok (.iload_n 2, 1) := by decide +kernel
theorem d_SF_ticks_77 : decode Y_SF_ticks.2.1 77 = .ok (.isub, 1) := by decide +kernel
theorem d_SF_ticks_78 : decode Y_SF_ticks.2.1 78 = .ok (.ireturn, 1) := by decide +kernel
def f_SF_ticks (w : zW) (D : zD) (a : Nat) (x1 : Int32) : Option ((Int32 ⊕ String) × zD) := zci (f_SF_isWithin w D x1 (1 : Int32) (99 : Int32)) (fun v1 D2 => (if v1 = 0 then some (.inr "java/lang/IllegalArgumentException", D2) else zobj w 0 a (zcv (f_SF_remember w D2 a ) (fun D3 => zref w 0 1 a (fun p4 => zref w 3 4 p4 (fun p5 => zfld w D3 1 6 p5 (fun v6 => zref w 0 1 a (fun p7 => zref w 3 4 p7 (fun p8 => zfld w D3 1 7 p8 (fun v9 => zlet (v6 + v9) (fun v10 => zref w 0 1 a (fun p11 => zobj w 3 p11 (zcv (f_Field_pass w D3 p11 x1) (fun D12 => zref w 0 1 a (fun p13 => zref w 3 4 p13 (fun p14 => zfld w D12 1 6 p14 (fun v15 => zref w 0 1 a (fun p16 => zref w 3 4 p16 (fun p17 => zfld w D12 1 7 p17 (fun v18 => some (.inl ((v15 + v18) - v10), D12)))))))))))))))))))))
set_option maxHeartbeats 4000000 in
set_option maxRecDepth 100000 in
theorem c_SF_ticks (z : zT) (D : zD) (a : Nat) (x1 : Int32) : zMX Y_SF_ticks 8 1 6 (zqX z) (f_SF_ticks z.2 D a x1) [.ref a, .int x1] z D := by
  refine zMX_of (plainFor_of_name (by decide +kernel)) rfl (Nat.le_of_ble_eq_true rfl) (fun K => ?_)
  unfold f_SF_ticks
  refine z_iload_n (pc := 0) d_SF_ticks_0 rfl 1 rfl ?_
  refine z_iconst (pc := 1) d_SF_ticks_1 ki_1 ?_
  refine z_bipush (pc := 2) d_SF_ticks_2 kb_99 ?_
  refine z_callSi (pc := 4) [.int x1, .int (1 : Int32), .int (99 : Int32)] lkS_SF_40 (c_SF_isWithin z D x1 (1 : Int32) (99 : Int32)) (by decide) rfl rfl (Nat.le_of_ble_eq_true rfl) d_SF_ticks_4 (fun v1 D2 => ?_)
  refine z_if_ne (pc := 7) (tgt := 21) d_SF_ticks_7 (by decide) ?_ ?_
  · exact z_throwW (pc := 10) th_SF_44_317_48 rfl (by decide) (Nat.le_of_ble_eq_true rfl) (by decide) (by decide) d_SF_ticks_10 d_SF_ticks_13 d_SF_ticks_14 d_SF_ticks_17 d_SF_ticks_20
  · refine z_aload_n (pc := 21) d_SF_ticks_21 rfl 0 rfl ?_
    refine z_callVv (pc := 22) [] lkV_SF_298 rfl (c_SF_remember z D2 a ) (by decide) rfl rfl (Nat.le_of_ble_eq_true rfl) d_SF_ticks_22 (fun D3 => ?_)
    refine z_aload_n (pc := 25) d_SF_ticks_25 rfl 0 rfl ?_
    refine z_getR (pc := 26) fl_SF_19 d_SF_ticks_26 (fun p4 => ?_)
    refine z_getR (pc := 29) fl_SF_154 d_SF_ticks_29 (fun p5 => ?_)
    refine z_getI (pc := 32) fl_SF_158 d_SF_ticks_32 (fun v6 => ?_)
    refine z_aload_n (pc := 35) d_SF_ticks_35 rfl 0 rfl ?_
    refine z_getR (pc := 36) fl_SF_19 d_SF_ticks_36 (fun p7 => ?_)
    refine z_getR (pc := 39) fl_SF_154 d_SF_ticks_39 (fun p8 => ?_)
    refine z_getI (pc := 42) fl_SF_163 d_SF_ticks_42 (fun v9 => ?_)
    refine z_iadd (pc := 45) d_SF_ticks_45 ?_
    refine z_leti (fun v10 => ?_)
    refine z_istore_n (pc := 46) d_SF_ticks_46 rfl (by decide) (lv' := [(2, .int v10), (0, .ref a), (1, .int x1)]) rfl ?_
    refine z_aload_n (pc := 47) d_SF_ticks_47 rfl 1 rfl ?_
    refine z_getR (pc := 48) fl_SF_19 d_SF_ticks_48 (fun p11 => ?_)
    refine z_iload_n (pc := 51) d_SF_ticks_51 rfl 2 rfl ?_
    refine z_callVv (pc := 52) [.int x1] lkV_SF_132 rfl (c_Field_pass z D3 p11 x1) (by decide) rfl rfl (Nat.le_of_ble_eq_true rfl) d_SF_ticks_52 (fun D12 => ?_)
    refine z_aload_n (pc := 55) d_SF_ticks_55 rfl 1 rfl ?_
    refine z_getR (pc := 56) fl_SF_19 d_SF_ticks_56 (fun p13 => ?_)
    refine z_getR (pc := 59) fl_SF_154 d_SF_ticks_59 (fun p14 => ?_)
    refine z_getI (pc := 62) fl_SF_158 d_SF_ticks_62 (fun v15 => ?_)
    refine z_aload_n (pc := 65) d_SF_ticks_65 rfl 1 rfl ?_
    refine z_getR (pc := 66) fl_SF_19 d_SF_ticks_66 (fun p16 => ?_)
    refine z_getR (pc := 69) fl_SF_154 d_SF_ticks_69 (fun p17 => ?_)
    refine z_getI (pc := 72) fl_SF_163 d_SF_ticks_72 (fun v18 => ?_)
    refine z_iadd (pc := 75) d_SF_ticks_75 ?_
    refine z_iload_n (pc := 76) d_SF_ticks_76 rfl 0 rfl ?_
    refine z_isub (pc := 77) d_SF_ticks_77 ?_
    exact z_xret (pc := 78) d_SF_ticks_78 rfl
theorem d_SF_set_0 : decode Y_SF_set.2.1 0 = .ok (.iload_n 1, 1) := by decide +kernel
theorem d_SF_set_1 : decode Y_SF_set.2.1 1 = .ok (.iload_n 2, 1) := by decide +kernel
theorem d_SF_set_2 : decode Y_SF_set.2.1 2 = .ok (.invokestatic 319, 3) := by decide +kernel
theorem d_SF_set_5 : decode Y_SF_set.2.1 5 = .ok (.ifCond .ne (14), 3) := by decide +kernel
theorem d_SF_set_8 : decode Y_SF_set.2.1 8 = .ok (.new 44, 3) := by decide +kernel
theorem d_SF_set_11 : decode Y_SF_set.2.1 11 = .ok (.dup, 1) := by decide +kernel
theorem d_SF_set_12 : decode Y_SF_set.2.1 12 = .ok (.ldc_w 322, 3) := by decide +kernel
theorem d_SF_set_15 : decode Y_SF_set.2.1 15 = .ok (.invokespecial 48, 3) := by decide +kernel
theorem d_SF_set_18 : decode Y_SF_set.2.1 18 = .ok (.athrow, 1) := by decide +kernel
theorem d_SF_set_19 : decode Y_SF_set.2.1 19 = .ok (.aload_n 0, 1) := by decide +kernel
theorem d_SF_set_20 : decode Y_SF_set.2.1 20 = .ok (.invokevirtual 298, 3) := by decide +kernel
theorem d_SF_set_23 : decode Y_SF_set.2.1 23 = .ok (.aload_n 0, 1) := by decide +kernel
theorem d_SF_set_24 : decode Y_SF_set.2.1 24 = .ok (.getfield 19, 3) := by decide +kernel
theorem d_SF_set_27 : decode Y_SF_set.2.1 27 = .ok (.iload_n 1, 1) := by decide +kernel
theorem d_SF_set_28 : decode Y_SF_set.2.1 28 = .ok (.iload_n 2, 1) := by decide +kernel
theorem d_SF_set_29 : decode Y_SF_set.2.1 29 = .ok (.invokevirtual 324, 3) := by decide +kernel
theorem d_SF_set_32 : decode Y_SF_set.2.1 32 = .ok (.ireturn, 1) := by decide +kernel
def f_SF_set (w : zW) (D : zD) (a : Nat) (x1 : Int32) (x2 : Int32) : Option ((Int32 ⊕ String) × zD) := zci (f_Field_isSetting w D x1 x2) (fun v1 D2 => (if v1 = 0 then some (.inr "java/lang/IllegalArgumentException", D2) else zobj w 0 a (zcv (f_SF_remember w D2 a ) (fun D3 => zref w 0 1 a (fun p4 => zobj w 3 p4 (zci (f_Field_change w D3 p4 x1 x2) (fun v5 D6 => some (.inl v5, D6))))))))
set_option maxHeartbeats 4000000 in
set_option maxRecDepth 100000 in
theorem c_SF_set (z : zT) (D : zD) (a : Nat) (x1 : Int32) (x2 : Int32) : zMX Y_SF_set 8 1 6 (zqX z) (f_SF_set z.2 D a x1 x2) [.ref a, .int x1, .int x2] z D := by
  refine zMX_of (plainFor_of_name (by decide +kernel)) rfl (Nat.le_of_ble_eq_true rfl) (fun K => ?_)
  unfold f_SF_set
  refine z_iload_n (pc := 0) d_SF_set_0 rfl 1 rfl ?_
  refine z_iload_n (pc := 1) d_SF_set_1 rfl 2 rfl ?_
  refine z_callSi (pc := 2) [.int x1, .int x2] lkS_SF_319 (c_Field_isSetting z D x1 x2) (by decide) rfl rfl (Nat.le_of_ble_eq_true rfl) d_SF_set_2 (fun v1 D2 => ?_)
  refine z_if_ne (pc := 5) (tgt := 19) d_SF_set_5 (by decide) ?_ ?_
  · exact z_throwW (pc := 8) th_SF_44_322_48 rfl (by decide) (Nat.le_of_ble_eq_true rfl) (by decide) (by decide) d_SF_set_8 d_SF_set_11 d_SF_set_12 d_SF_set_15 d_SF_set_18
  · refine z_aload_n (pc := 19) d_SF_set_19 rfl 0 rfl ?_
    refine z_callVv (pc := 20) [] lkV_SF_298 rfl (c_SF_remember z D2 a ) (by decide) rfl rfl (Nat.le_of_ble_eq_true rfl) d_SF_set_20 (fun D3 => ?_)
    refine z_aload_n (pc := 23) d_SF_set_23 rfl 0 rfl ?_
    refine z_getR (pc := 24) fl_SF_19 d_SF_set_24 (fun p4 => ?_)
    refine z_iload_n (pc := 27) d_SF_set_27 rfl 1 rfl ?_
    refine z_iload_n (pc := 28) d_SF_set_28 rfl 2 rfl ?_
    refine z_callVi (pc := 29) [.int x1, .int x2] lkV_SF_324 rfl (c_Field_change z D3 p4 x1 x2) (by decide) rfl rfl (Nat.le_of_ble_eq_true rfl) d_SF_set_29 (fun v5 D6 => ?_)
    exact z_xret (pc := 32) d_SF_set_32 rfl
theorem d_SF_undo_0 : decode Y_SF_undo.2.1 0 = .ok (.aload_n 0, 1) := by decide +kernel
theorem d_SF_undo_1 : decode Y_SF_undo.2.1 1 = .ok (.getfield 327, 3) := by decide +kernel
theorem d_SF_undo_4 : decode Y_SF_undo.2.1 4 = .ok (.ifCond .gt (14), 3) := by decide +kernel
theorem d_SF_undo_7 : decode Y_SF_undo.2.1 7 = .ok (.new 55, 3) := by decide +kernel
theorem d_SF_undo_10 : decode Y_SF_undo.2.1 10 = .ok (.dup, 1) := by decide +kernel
theorem d_SF_undo_11 : decode Y_SF_undo.2.1 11 = .ok (.ldc_w 330, 3) := by decide +kernel
theorem d_SF_undo_14 : decode Y_SF_undo.2.1 14 = .ok (.invokespecial 59, 3) := by decide +kernel
theorem d_SF_undo_17 : decode Y_SF_undo.2.1 17 = .ok (.athrow, 1) := by decide +kernel
theorem d_SF_undo_18 : decode Y_SF_undo.2.1 18 = .ok (.aload_n 0, 1) := by decide +kernel
theorem d_SF_undo_19 : decode Y_SF_undo.2.1 19 = .ok (.dup, 1) := by decide +kernel
theorem d_SF_undo_20 : decode Y_SF_undo.2.1 20 = .ok (.getfield 327, 3) := by decide +kernel
theorem d_SF_undo_23 : decode Y_SF_undo.2.1 23 = .ok (.iconst (1), 1) := by decide +kernel
theorem d_SF_undo_24 : decode Y_SF_undo.2.1 24 = .ok (.isub, 1) := by decide +kernel
theorem d_SF_undo_25 : decode Y_SF_undo.2.1 25 = .ok (.putfield 327, 3) := by decide +kernel
theorem d_SF_undo_28 : decode Y_SF_undo.2.1 28 = .ok (.aload_n 0, 1) := by decide +kernel
theorem d_SF_undo_29 : decode Y_SF_undo.2.1 29 = .ok (.getfield 19, 3) := by decide +kernel
theorem d_SF_undo_32 : decode Y_SF_undo.2.1 32 = .ok (.aload_n 0, 1) := by decide +kernel
theorem d_SF_undo_33 : decode Y_SF_undo.2.1 33 = .ok (.getfield 29, 3) := by decide +kernel
theorem d_SF_undo_36 : decode Y_SF_undo.2.1 36 = .ok (.aload_n 0, 1) := by decide +kernel
theorem d_SF_undo_37 : decode Y_SF_undo.2.1 37 = .ok (.getfield 332, 3) := by decide +kernel
theorem d_SF_undo_40 : decode Y_SF_undo.2.1 40 = .ok (.aload_n 0, 1) := by decide +kernel
theorem d_SF_undo_41 : decode Y_SF_undo.2.1 41 = .ok (.getfield 327, 3) := by decide +kernel
theorem d_SF_undo_44 : decode Y_SF_undo.2.1 44 = .ok (.iadd, 1) := by decide +kernel
theorem d_SF_undo_45 : decode Y_SF_undo.2.1 45 = .ok (.bipush (14), 2) := by decide +kernel
theorem d_SF_undo_47 : decode Y_SF_undo.2.1 47 = .ok (.irem, 1) := by decide +kernel
theorem d_SF_undo_48 : decode Y_SF_undo.2.1 48 = .ok (.aaload, 1) := by decide +kernel
theorem d_SF_undo_49 : decode Y_SF_undo.2.1 49 = .ok (.invokevirtual 70, 3) := by decide +kernel
theorem d_SF_undo_52 : decode Y_SF_undo.2.1 52 = .ok (.aload_n 0, 1) := by decide +kernel
theorem d_SF_undo_53 : decode Y_SF_undo.2.1 53 = .ok (.getfield 327, 3) := by decide +kernel
theorem d_SF_undo_56 : decode Y_SF_undo.2.1 56 = .ok (.ireturn, 1) := by decide +kernel
def f_SF_undo (w : zW) (D : zD) (a : Nat) : Option ((Int32 ⊕ String) × zD) := zfld w D 0 6 a (fun v1 => (if 0 < v1 then zfld w D 0 6 a (fun v2 => zput w D 0 6 a (v2 - (1 : Int32)) (fun D3 => zref w 0 1 a (fun p4 => zref w 0 4 a (fun p5 => zfld w D3 0 5 a (fun v6 => zfld w D3 0 6 a (fun v7 => zald4 w p5 (zirem (v6 + v7) (14 : Int32)) (fun p8 => zobj w 3 p4 (zcv (f_Field_copyFrom w D3 p4 p8) (fun D9 => zfld w D9 0 6 a (fun v10 => some (.inl v10, D9))))))))))) else some (.inr "java/lang/IllegalStateException", D)))
set_option maxHeartbeats 4000000 in
set_option maxRecDepth 100000 in
theorem c_SF_undo (z : zT) (D : zD) (a : Nat) : zMX Y_SF_undo 8 1 6 (zqX z) (f_SF_undo z.2 D a) [.ref a] z D := by
  refine zMX_of (plainFor_of_name (by decide +kernel)) rfl (Nat.le_of_ble_eq_true rfl) (fun K => ?_)
  unfold f_SF_undo
  refine z_aload_n (pc := 0) d_SF_undo_0 rfl 0 rfl ?_
  refine z_getI (pc := 1) fl_SF_327 d_SF_undo_1 (fun v1 => ?_)
  refine z_if_gt (pc := 4) (tgt := 18) d_SF_undo_4 (by decide) ?_ ?_
  · refine z_aload_n (pc := 18) d_SF_undo_18 rfl 0 rfl ?_
    refine z_dup (pc := 19) d_SF_undo_19 rfl ?_
    refine z_getI (pc := 20) fl_SF_327 d_SF_undo_20 (fun v2 => ?_)
    refine z_iconst (pc := 23) d_SF_undo_23 ki_1 ?_
    refine z_isub (pc := 24) d_SF_undo_24 ?_
    refine z_putI (pc := 25) fl_SF_327 d_SF_undo_25 (fun D3 => ?_)
    refine z_aload_n (pc := 28) d_SF_undo_28 rfl 0 rfl ?_
    refine z_getR (pc := 29) fl_SF_19 d_SF_undo_29 (fun p4 => ?_)
    refine z_aload_n (pc := 32) d_SF_undo_32 rfl 0 rfl ?_
    refine z_getR (pc := 33) fl_SF_29 d_SF_undo_33 (fun p5 => ?_)
    refine z_aload_n (pc := 36) d_SF_undo_36 rfl 0 rfl ?_
    refine z_getI (pc := 37) fl_SF_332 d_SF_undo_37 (fun v6 => ?_)
    refine z_aload_n (pc := 40) d_SF_undo_40 rfl 0 rfl ?_
    refine z_getI (pc := 41) fl_SF_327 d_SF_undo_41 (fun v7 => ?_)
    refine z_iadd (pc := 44) d_SF_undo_44 ?_
    refine z_bipush (pc := 45) d_SF_undo_45 kb_14 ?_
    refine z_iremK (pc := 47) d_SF_undo_47 (by decide) ?_
    refine z_aaload (pc := 48) d_SF_undo_48 (fun p8 => ?_)
    refine z_callVv (pc := 49) [.ref p8] lkV_SF_70 rfl (c_Field_copyFrom z D3 p4 p8) (by decide) rfl rfl (Nat.le_of_ble_eq_true rfl) d_SF_undo_49 (fun D9 => ?_)
    refine z_aload_n (pc := 52) d_SF_undo_52 rfl 0 rfl ?_
    refine z_getI (pc := 53) fl_SF_327 d_SF_undo_53 (fun v10 => ?_)
    exact z_xret (pc := 56) d_SF_undo_56 rfl
  · exact z_throwW (pc := 7) th_SF_55_330_59 rfl (by decide) (Nat.le_of_ble_eq_true rfl) (by decide) (by decide) d_SF_undo_7 d_SF_undo_10 d_SF_undo_11 d_SF_undo_14 d_SF_undo_17
theorem d_SF_sirenIn_0 : decode Y_SF_sirenIn.2.1 0 = .ok (.aload_n 0, 1) := by decide +kernel
theorem d_SF_sirenIn_1 : decode Y_SF_sirenIn.2.1 1 = .ok (.getfield 19, 3) := by decide +kernel
theorem d_SF_sirenIn_4 : decode Y_SF_sirenIn.2.1 4 = .ok (.getfield 98, 3) := by decide +kernel
theorem d_SF_sirenIn_7 : decode Y_SF_sirenIn.2.1 7 = .ok (.iload_n 1, 1) := by decide +kernel
theorem d_SF_sirenIn_8 : decode Y_SF_sirenIn.2.1 8 = .ok (.invokevirtual 174, 3) := by decide +kernel
theorem d_SF_sirenIn_11 : decode Y_SF_sirenIn.2.1 11 = .ok (.ifCond .ne (13), 3) := by decide +kernel
theorem d_SF_sirenIn_14 : decode Y_SF_sirenIn.2.1 14 = .ok (.new 178, 3) := by decide +kernel
theorem d_SF_sirenIn_17 : decode Y_SF_sirenIn.2.1 17 = .ok (.dup, 1) := by decide +kernel
theorem d_SF_sirenIn_18 : decode Y_SF_sirenIn.2.1 18 = .ok (.ldc 180, 2) := by decide +kernel
theorem d_SF_sirenIn_20 : decode Y_SF_sirenIn.2.1 20 = .ok (.invokespecial 182, 3) := by decide +kernel
theorem d_SF_sirenIn_23 : decode Y_SF_sirenIn.2.1 23 = .ok (.athrow, 1) := by decide +kernel
theorem d_SF_sirenIn_24 : decode Y_SF_sirenIn.2.1 24 = .ok (.iload_n 2, 1) := by decide +kernel
theorem d_SF_sirenIn_25 : decode Y_SF_sirenIn.2.1 25 = .ok (.iconst (0), 1) := by decide +kernel
theorem d_SF_sirenIn_26 : decode Y_SF_sirenIn.2.1 26 = .ok (.sipush (1000), 3) := by decide +kernel
theorem d_SF_sirenIn_29 : decode Y_SF_sirenIn.2.1 29 = .ok (.invokestatic 40, 3) := by decide +kernel
theorem d_SF_sirenIn_32 : decode Y_SF_sirenIn.2.1 32 = .ok (.ifCond .eq (12), 3) := by decide +kernel
theorem d_SF_sirenIn_35 : decode Y_SF_sirenIn.2.1 35 = .ok (.iload_n 3, 1) := by decide +kernel
theorem d_SF_sirenIn_36 : decode Y_SF_sirenIn.2.1 36 = .ok (.iconst (0), 1) := by decide +kernel
theorem d_SF_sirenIn_37 : decode Y_SF_sirenIn.2.1 37 = .ok (.iconst (1), 1) := by decide +kernel
theorem d_SF_sirenIn_38 : decode Y_SF_sirenIn.2.1 38 = .ok (.invokestatic 40, 3) := by decide +kernel
theorem d_SF_sirenIn_41 : decode Y_SF_sirenIn.2.1 41 = .ok (.ifCond .ne (14), 3) := by decide +kernel
theorem d_SF_sirenIn_44 : decode Y_SF_sirenIn.2.1 44 = .ok (.new 44, 3) := by decide +kernel
theorem d_SF_sirenIn_47 : decode Y_SF_sirenIn.2.1 47 = .ok (.dup, 1) := by decide +kernel
theorem d_SF_sirenIn_48 : decode Y_SF_sirenIn.2.1 48 = .ok (.ldc_w 335, 3) := by decide +kernel
theorem d_SF_sirenIn_51 : decode Y_SF_sirenIn.2.1 51 = .ok (.invokespecial 48, 3) := by decide +kernel
theorem d_SF_sirenIn_54 : decode Y_SF_sirenIn.2.1 54 = .ok (.athrow, 1) := by decide +kernel
theorem d_SF_sirenIn_55 : decode Y_SF_sirenIn.2.1 55 = .ok (.iload_n 3, 1) := by decide +kernel
theorem d_SF_sirenIn_56 : decode Y_SF_sirenIn.2.1 56 = .ok (.ifCond .ne (18), 3) := by decide +kernel
theorem d_SF_sirenIn_59 : decode Y_SF_sirenIn.2.1 59 = .ok (.aload_n 0, 1) := by decide +kernel
theorem d_SF_sirenIn_60 : decode Y_SF_sirenIn.2.1 60 = .ok (.getfield 19, 3) := by decide +kernel
theorem d_SF_sirenIn_63 : decode Y_SF_sirenIn.2.1 63 = .ok (.getfield 98, 3) := by decide +kernel
theorem d_SF_sirenIn_66 : decode Y_SF_sirenIn.2.1 66 = .ok (.iload_n 1, 1) := by decide +kernel
theorem d_SF_sirenIn_67 : decode Y_SF_sirenIn.2.1 67 = .ok (.iload_n 2, 1) := by decide +kernel
theorem d_SF_sirenIn_68 : decode Y_SF_sirenIn.2.1 68 = .ok (.invokevirtual 337, 3) := by decide +kernel
theorem d_SF_sirenIn_71 : decode Y_SF_sirenIn.2.1 71 = .ok (.goto (15), 3) := by decide +kernel
theorem d_SF_sirenIn_74 : decode Y_SF_sirenIn.2.1 74 = .ok (.aload_n 0, 1) := by decide +kernel
theorem d_SF_sirenIn_75 : decode Y_SF_sirenIn.2.1 75 = .ok (.getfield 19, 3) := by decide +kernel
theorem d_SF_sirenIn_78 : decode Y_SF_sirenIn.2.1 78 = .ok (.getfield 98, 3) := by decide +kernel
theorem d_SF_sirenIn_81 : decode Y_SF_sirenIn.2.1 81 = .ok (.iload_n 1, 1) := by decide +kernel
theorem d_SF_sirenIn_82 : decode Y_SF_sirenIn.2.1 82 = .ok (.iload_n 2, 1) := by decide +kernel
theorem d_SF_sirenIn_83 : decode Y_SF_sirenIn.2.1 83 = .ok (.invokevirtual 340, 3) := by decide +kernel
theorem d_SF_sirenIn_86 : decode Y_SF_sirenIn.2.1 86 = .ok (.ireturn, 1) := by decide +kernel
def f_SF_sirenIn (w : zW) (D : zD) (a : Nat) (x1 : Int32) (x2 : Int32) (x3 : Int32) : Option ((Int32 ⊕ String) × zD) := zref w 0 1 a (fun p1 => zref w 3 0 p1 (fun p2 => zobj w 6 p2 (zci (f_Sirens_has w D p2 x1) (fun v3 D4 => (if v3 = 0 then some (.inr "java/lang/IndexOutOfBoundsException", D4) else zjp (fun (D5 : zD) => some (.inr "java/lang/IllegalArgumentException", D5)) (fun j44 => zci (f_SF_isWithin w D4 x2 (0 : Int32) (1000 : Int32)) (fun v6 D7 => (if v6 = 0 then j44 D7 else zci (f_SF_isWithin w D7 x3 (0 : Int32) (1 : Int32)) (fun v8 D9 => (if v8 = 0 then j44 D9 else zjp (fun (s0 : Int32) (D10 : zD) => some (.inl s0, D10)) (fun j86 => (if x3 = 0 then zref w 0 1 a (fun p15 => zref w 3 0 p15 (fun p16 => zobj w 6 p16 (zci (f_Sirens_placeTickByTick w D9 p16 x1 x2) (fun v17 D18 => j86 v17 D18)))) else zref w 0 1 a (fun p11 => zref w 3 0 p11 (fun p12 => zobj w 6 p12 (zci (f_Sirens_placeAtOnce w D9 p12 x1 x2) (fun v13 D14 => j86 v13 D14))))))))))))))))
set_option maxHeartbeats 4000000 in
set_option maxRecDepth 100000 in
theorem c_SF_sirenIn (z : zT) (D : zD) (a : Nat) (x1 : Int32) (x2 : Int32) (x3 : Int32) : zMX Y_SF_sirenIn 8 1 6 (zqX z) (f_SF_sirenIn z.2 D a x1 x2 x3) [.ref a, .int x1, .int x2, .int x3] z D := by
  refine zMX_of (plainFor_of_name (by decide +kernel)) rfl (Nat.le_of_ble_eq_true rfl) (fun K => ?_)
  unfold f_SF_sirenIn
  refine z_aload_n (pc := 0) d_SF_sirenIn_0 rfl 0 rfl ?_
  refine z_getR (pc := 1) fl_SF_19 d_SF_sirenIn_1 (fun p1 => ?_)
  refine z_getR (pc := 4) fl_SF_98 d_SF_sirenIn_4 (fun p2 => ?_)
  refine z_iload_n (pc := 7) d_SF_sirenIn_7 rfl 1 rfl ?_
  refine z_callVi (pc := 8) [.int x1] lkV_SF_174 rfl (c_Sirens_has z D p2 x1) (by decide) rfl rfl (Nat.le_of_ble_eq_true rfl) d_SF_sirenIn_8 (fun v3 D4 => ?_)
  refine z_if_ne (pc := 11) (tgt := 24) d_SF_sirenIn_11 (by decide) ?_ ?_
  · exact z_throw (pc := 14) th_SF_178_180_182 rfl (by decide) (Nat.le_of_ble_eq_true rfl) (by decide) (by decide) d_SF_sirenIn_14 d_SF_sirenIn_17 d_SF_sirenIn_18 d_SF_sirenIn_20 d_SF_sirenIn_23
  · refine z_jp (fun j44 : zD → Option ((Int32 ⊕ String) × zD) => ∀ (D5 : zD), zGO K Y_SF_sirenIn 8 1 6 (zqX z) (j44  D5) 1 6 z D5 44 [] []) (fun  D5 => ?_) (fun j44 h44 => ?_)
    · exact z_throwW (pc := 44) th_SF_44_335_48 rfl (by decide) (Nat.le_of_ble_eq_true rfl) (by decide) (by decide) d_SF_sirenIn_44 d_SF_sirenIn_47 d_SF_sirenIn_48 d_SF_sirenIn_51 d_SF_sirenIn_54
    · refine z_iload_n (pc := 24) d_SF_sirenIn_24 rfl 2 rfl ?_
      refine z_iconst (pc := 25) d_SF_sirenIn_25 ki_0 ?_
      refine z_sipush (pc := 26) d_SF_sirenIn_26 ks_1000 ?_
      refine z_callSi (pc := 29) [.int x2, .int (0 : Int32), .int (1000 : Int32)] lkS_SF_40 (c_SF_isWithin z D4 x2 (0 : Int32) (1000 : Int32)) (by decide) rfl rfl (Nat.le_of_ble_eq_true rfl) d_SF_sirenIn_29 (fun v6 D7 => ?_)
      refine z_if_eq (pc := 32) (tgt := 44) d_SF_sirenIn_32 (by decide) ?_ ?_
      · exact z_sub [] rfl (h44 D7)
      · refine z_iload_n (pc := 35) d_SF_sirenIn_35 rfl 3 rfl ?_
        refine z_iconst (pc := 36) d_SF_sirenIn_36 ki_0 ?_
        refine z_iconst (pc := 37) d_SF_sirenIn_37 ki_1 ?_
        refine z_callSi (pc := 38) [.int x3, .int (0 : Int32), .int (1 : Int32)] lkS_SF_40 (c_SF_isWithin z D7 x3 (0 : Int32) (1 : Int32)) (by decide) rfl rfl (Nat.le_of_ble_eq_true rfl) d_SF_sirenIn_38 (fun v8 D9 => ?_)
        refine z_if_ne (pc := 41) (tgt := 55) d_SF_sirenIn_41 (by decide) ?_ ?_
        · exact z_sub [] rfl (h44 D9)
        · refine z_jp (fun j86 : Int32 → zD → Option ((Int32 ⊕ String) × zD) => ∀ (s0 : Int32) (D10 : zD), zGO K Y_SF_sirenIn 8 1 6 (zqX z) (j86 s0 D10) 1 6 z D10 86 [] [.int s0]) (fun s0 D10 => ?_) (fun j86 h86 => ?_)
          · exact z_xret (pc := 86) d_SF_sirenIn_86 rfl
          · refine z_iload_n (pc := 55) d_SF_sirenIn_55 rfl 3 rfl ?_
            refine z_if_ne (pc := 56) (tgt := 74) d_SF_sirenIn_56 (by decide) ?_ ?_
            · refine z_aload_n (pc := 59) d_SF_sirenIn_59 rfl 0 rfl ?_
              refine z_getR (pc := 60) fl_SF_19 d_SF_sirenIn_60 (fun p15 => ?_)
              refine z_getR (pc := 63) fl_SF_98 d_SF_sirenIn_63 (fun p16 => ?_)
              refine z_iload_n (pc := 66) d_SF_sirenIn_66 rfl 1 rfl ?_
              refine z_iload_n (pc := 67) d_SF_sirenIn_67 rfl 2 rfl ?_
              refine z_callVi (pc := 68) [.int x1, .int x2] lkV_SF_337 rfl (c_Sirens_placeTickByTick z D9 p16 x1 x2) (by decide) rfl rfl (Nat.le_of_ble_eq_true rfl) d_SF_sirenIn_68 (fun v17 D18 => ?_)
              refine z_goto (pc := 71) (tgt := 86) d_SF_sirenIn_71 (by decide) ?_
              exact z_sub [] rfl (h86 v17 D18)
            · refine z_aload_n (pc := 74) d_SF_sirenIn_74 rfl 0 rfl ?_
              refine z_getR (pc := 75) fl_SF_19 d_SF_sirenIn_75 (fun p11 => ?_)
              refine z_getR (pc := 78) fl_SF_98 d_SF_sirenIn_78 (fun p12 => ?_)
              refine z_iload_n (pc := 81) d_SF_sirenIn_81 rfl 1 rfl ?_
              refine z_iload_n (pc := 82) d_SF_sirenIn_82 rfl 2 rfl ?_
              refine z_callVi (pc := 83) [.int x1, .int x2] lkV_SF_340 rfl (c_Sirens_placeAtOnce z D9 p12 x1 x2) (by decide) rfl rfl (Nat.le_of_ble_eq_true rfl) d_SF_sirenIn_83 (fun v13 D14 => ?_)
              exact z_sub [] rfl (h86 v13 D14)
theorem d_SF_heardIn_0 : decode Y_SF_heardIn.2.1 0 = .ok (.aload_n 0, 1) := by decide +kernel
theorem d_SF_heardIn_1 : decode Y_SF_heardIn.2.1 1 = .ok (.getfield 19, 3) := by decide +kernel
theorem d_SF_heardIn_4 : decode Y_SF_heardIn.2.1 4 = .ok (.iload_n 1, 1) := by decide +kernel
theorem d_SF_heardIn_5 : decode Y_SF_heardIn.2.1 5 = .ok (.iload_n 2, 1) := by decide +kernel
theorem d_SF_heardIn_6 : decode Y_SF_heardIn.2.1 6 = .ok (.invokevirtual 265, 3) := by decide +kernel
theorem d_SF_heardIn_9 : decode Y_SF_heardIn.2.1 9 = .ok (.ifCond .ne (14), 3) := by decide +kernel
theorem d_SF_heardIn_12 : decode Y_SF_heardIn.2.1 12 = .ok (.new 178, 3) := by decide +kernel
theorem d_SF_heardIn_15 : decode Y_SF_heardIn.2.1 15 = .ok (.dup, 1) := by decide +kernel
theorem d_SF_heardIn_16 : decode Y_SF_heardIn.2.1 16 = .ok (.ldc_w 269, 3) := by decide +kernel
theorem d_SF_heardIn_19 : decode Y_SF_heardIn.2.1 19 = .ok (.invokespecial 182, 3) := by decide +kernel
theorem d_SF_heardIn_22 : decode Y_SF_heardIn.2.1 22 = .ok (.athrow, 1) := by decide +kernel
theorem d_SF_heardIn_23 : decode Y_SF_heardIn.2.1 23 = .ok (.aload_n 0, 1) := by decide +kernel
theorem d_SF_heardIn_24 : decode Y_SF_heardIn.2.1 24 = .ok (.getfield 26, 3) := by decide +kernel
theorem d_SF_heardIn_27 : decode Y_SF_heardIn.2.1 27 = .ok (.aload_n 0, 1) := by decide +kernel
theorem d_SF_heardIn_28 : decode Y_SF_heardIn.2.1 28 = .ok (.getfield 19, 3) := by decide +kernel
theorem d_SF_heardIn_31 : decode Y_SF_heardIn.2.1 31 = .ok (.invokevirtual 70, 3) := by decide +kernel
theorem d_SF_heardIn_34 : decode Y_SF_heardIn.2.1 34 = .ok (.iload_n 1, 1) := by decide +kernel
theorem d_SF_heardIn_35 : decode Y_SF_heardIn.2.1 35 = .ok (.iload_n 2, 1) := by decide +kernel
theorem d_SF_heardIn_36 : decode Y_SF_heardIn.2.1 36 = .ok (.invokestatic 271, 3) := by decide +kernel
theorem d_SF_heardIn_39 : decode Y_SF_heardIn.2.1 39 = .ok (.istore_n 3, 1) := by decide +kernel
theorem d_SF_heardIn_40 : decode Y_SF_heardIn.2.1 40 = .ok (.aload_n 0, 1) := by decide +kernel
theorem d_SF_heardIn_41 : decode Y_SF_heardIn.2.1 41 = .ok (.getfield 26, 3) := by decide +kernel
theorem d_SF_heardIn_44 : decode Y_SF_heardIn.2.1 44 = .ok (.getfield 154, 3) := by decide +kernel
theorem d_SF_heardIn_47 : decode Y_SF_heardIn.2.1 47 = .ok (.getfield 274, 3) := by decide +kernel
theorem d_SF_heardIn_50 : decode Y_SF_heardIn.2.1 50 = .ok (.iload_n 3, 1) := by decide +kernel
theorem d_SF_heardIn_51 : decode Y_SF_heardIn.2.1 51 = .ok (.iaload, 1) := by decide +kernel
theorem d_SF_heardIn_52 : decode Y_SF_heardIn.2.1 52 = .ok (.istore 4, 2) := by decide +kernel
theorem d_SF_heardIn_54 : decode Y_SF_heardIn.2.1 54 = .ok (.iconst (1), 1) := by decide +kernel
theorem d_SF_heardIn_55 : decode Y_SF_heardIn.2.1 55 = .ok (.istore 5, 2) := by decide +kernel
theorem d_SF_heardIn_57 : decode Y_SF_heardIn.2.1 57 = .ok (.iload 5, 2) := by decide +kernel
theorem d_SF_heardIn_59 : decode Y_SF_heardIn.2.1 59 = .ok (.sipush (200), 3) := by decide +kernel
theorem d_SF_heardIn_62 : decode Y_SF_heardIn.2.1 62 = .ok (.if_icmp .gt (36), 3) := by decide +kernel
theorem d_SF_heardIn_65 : decode Y_SF_heardIn.2.1 65 = .ok (.aload_n 0, 1) := by decide +kernel
theorem d_SF_heardIn_66 : decode Y_SF_heardIn.2.1 66 = .ok (.getfield 26, 3) := by decide +kernel
theorem d_SF_heardIn_69 : decode Y_SF_heardIn.2.1 69 = .ok (.invokevirtual 343, 3) := by decide +kernel
theorem d_SF_heardIn_72 : decode Y_SF_heardIn.2.1 72 = .ok (.aload_n 0, 1) := by decide +kernel
theorem d_SF_heardIn_73 : decode Y_SF_heardIn.2.1 73 = .ok (.getfield 26, 3) := by decide +kernel
theorem d_SF_heardIn_76 : decode Y_SF_heardIn.2.1 76 = .ok (.getfield 154, 3) := by decide +kernel
theorem d_SF_heardIn_79 : decode Y_SF_heardIn.2.1 79 = .ok (.getfield 274, 3) := by decide +kernel
theorem d_SF_heardIn_82 : decode Y_SF_heardIn.2.1 82 = .ok (.iload_n 3, 1) := by decide +kernel
theorem d_SF_heardIn_83 : decode Y_SF_heardIn.2.1 83 = .ok (.iaload, 1) := by decide +kernel
theorem d_SF_heardIn_84 : decode Y_SF_heardIn.2.1 84 = .ok (.iload 4, 2) := by decide +kernel
theorem d_SF_heardIn_86 : decode Y_SF_heardIn.2.1 86 = .ok (.if_icmp .le (6), 3) := by decide +kernel
theorem d_SF_heardIn_89 : decode Y_SF_heardIn.2.1 89 = .ok (.iload 5, 2) := by decide +kernel
theorem d_SF_heardIn_91 : decode Y_SF_heardIn.2.1 91 = .ok (.ireturn, 1) := by decide +kernel
theorem d_SF_heardIn_92 : decode Y_SF_heardIn.2.1 92 = .ok (.iinc 5 (1), 3) := by decide +kernel
theorem d_SF_heardIn_95 : decode Y_SF_heardIn.2.1 95 = .ok (.goto (-38), 3) := by decide +kernel
theorem d_SF_heardIn_98 : decode Y_SF_heardIn.2.1 98 = .ok (.iconst (-1), 1) := by decide +kernel
theorem d_SF_heardIn_99 : decode Y_SF_heardIn.2.1 99 = .ok (.ireturn, 1) := by decide +kernel
def f_SF_heardIn (w : zW) (D : zD) (a : Nat) (x1 : Int32) (x2 : Int32) : Option ((Int32 ⊕ String) × zD) := zref w 0 1 a (fun p1 => zobj w 3 p1 (zci (f_Field_hasPair w D p1 x1 x2) (fun v2 D3 => (if v2 = 0 then some (.inr "java/lang/IndexOutOfBoundsException", D3) else zjp (zlp (fun (_ : Int32) (_ : Int32) (_ : Int32) (_ : zD) => none) (fun (j57 : Int32 → Int32 → Int32 → zD → Option ((Int32 ⊕ String) × zD)) (x3 : Int32) (x4 : Int32) (x5 : Int32) (D4 : zD) => (if (200 : Int32) < x5 then some (.inl (-1 : Int32), D4) else zref w 0 3 a (fun p5 => zobj w 3 p5 (zcv (f_Field_tick w D4 p5 ) (fun D6 => zref w 0 3 a (fun p7 => zref w 3 4 p7 (fun p8 => zref w 1 0 p8 (fun p9 => zald w D6 0 p9 x3 (fun v10 => (if v10 ≤ x4 then zlet (x5 + (1 : Int32)) (fun v11 => j57 x3 x4 v11 D6) else some (.inl x5, D6))))))))))) zfuel) (fun j57 => zref w 0 3 a (fun p12 => zref w 0 1 a (fun p13 => zobj w 3 p12 (zcv (f_Field_copyFrom w D3 p12 p13) (fun D14 => zci (f_Ears_pairOf w D14 x1 x2) (fun v15 D16 => zref w 0 3 a (fun p17 => zref w 3 4 p17 (fun p18 => zref w 1 0 p18 (fun p19 => zald w D16 0 p19 v15 (fun v20 => j57 v15 v20 (1 : Int32) D16))))))))))))))
set_option maxHeartbeats 4000000 in
set_option maxRecDepth 100000 in
theorem c_SF_heardIn (z : zT) (D : zD) (a : Nat) (x1 : Int32) (x2 : Int32) : zMX Y_SF_heardIn 8 1 6 (zqX z) (f_SF_heardIn z.2 D a x1 x2) [.ref a, .int x1, .int x2] z D := by
  refine zMX_of (plainFor_of_name (by decide +kernel)) rfl (Nat.le_of_ble_eq_true rfl) (fun K => ?_)
  unfold f_SF_heardIn
  refine z_aload_n (pc := 0) d_SF_heardIn_0 rfl 0 rfl ?_
  refine z_getR (pc := 1) fl_SF_19 d_SF_heardIn_1 (fun p1 => ?_)
  refine z_iload_n (pc := 4) d_SF_heardIn_4 rfl 1 rfl ?_
  refine z_iload_n (pc := 5) d_SF_heardIn_5 rfl 2 rfl ?_
  refine z_callVi (pc := 6) [.int x1, .int x2] lkV_SF_265 rfl (c_Field_hasPair z D p1 x1 x2) (by decide) rfl rfl (Nat.le_of_ble_eq_true rfl) d_SF_heardIn_6 (fun v2 D3 => ?_)
  refine z_if_ne (pc := 9) (tgt := 23) d_SF_heardIn_9 (by decide) ?_ ?_
  · exact z_throwW (pc := 12) th_SF_178_269_182 rfl (by decide) (Nat.le_of_ble_eq_true rfl) (by decide) (by decide) d_SF_heardIn_12 d_SF_heardIn_15 d_SF_heardIn_16 d_SF_heardIn_19 d_SF_heardIn_22
  · refine z_jp (fun j57 : Int32 → Int32 → Int32 → zD → Option ((Int32 ⊕ String) × zD) => ∀ (x3 : Int32) (x4 : Int32) (x5 : Int32) (D4 : zD), zGO K Y_SF_heardIn 8 1 6 (zqX z) (j57 x3 x4 x5 D4) 1 6 z D4 57 [(0, .ref a), (3, .int x3), (4, .int x4), (5, .int x5)] []) (z_lp (fun j57 : Int32 → Int32 → Int32 → zD → Option ((Int32 ⊕ String) × zD) => ∀ (x3 : Int32) (x4 : Int32) (x5 : Int32) (D4 : zD), zGO K Y_SF_heardIn 8 1 6 (zqX z) (j57 x3 x4 x5 D4) 1 6 z D4 57 [(0, .ref a), (3, .int x3), (4, .int x4), (5, .int x5)] []) (fun _ _ _ _ => z_none) (fun j57 h57 x3 x4 x5 D4 => ?_) zfuel) (fun j57 h57 => ?_)
    · refine z_iload (pc := 57) d_SF_heardIn_57 3 rfl ?_
      refine z_sipush (pc := 59) d_SF_heardIn_59 ks_200 ?_
      refine z_icmp_gt (pc := 62) (tgt := 98) d_SF_heardIn_62 (by decide) ?_ ?_
      · refine z_iconst (pc := 98) d_SF_heardIn_98 ki_m1 ?_
        exact z_xret (pc := 99) d_SF_heardIn_99 rfl
      · refine z_aload_n (pc := 65) d_SF_heardIn_65 rfl 0 rfl ?_
        refine z_getR (pc := 66) fl_SF_26 d_SF_heardIn_66 (fun p5 => ?_)
        refine z_callVv (pc := 69) [] lkV_SF_343 rfl (c_Field_tick z D4 p5 ) (by decide) rfl rfl (Nat.le_of_ble_eq_true rfl) d_SF_heardIn_69 (fun D6 => ?_)
        refine z_aload_n (pc := 72) d_SF_heardIn_72 rfl 0 rfl ?_
        refine z_getR (pc := 73) fl_SF_26 d_SF_heardIn_73 (fun p7 => ?_)
        refine z_getR (pc := 76) fl_SF_154 d_SF_heardIn_76 (fun p8 => ?_)
        refine z_getR (pc := 79) fl_SF_274 d_SF_heardIn_79 (fun p9 => ?_)
        refine z_iload_n (pc := 82) d_SF_heardIn_82 rfl 1 rfl ?_
        refine z_iaload (pc := 83) d_SF_heardIn_83 (fun v10 => ?_)
        refine z_iload (pc := 84) d_SF_heardIn_84 2 rfl ?_
        refine z_icmp_le (pc := 86) (tgt := 92) d_SF_heardIn_86 (by decide) ?_ ?_
        · refine z_iincL (pc := 92) d_SF_heardIn_92 ki_1 3 rfl (by decide) (fun v11 => z_lvc (lv2 := [(5, .int v11), (0, .ref a), (3, .int x3), (4, .int x4)]) rfl ?_)
          refine z_goto (pc := 95) (tgt := 57) d_SF_heardIn_95 (by decide) ?_
          exact z_sub [1, 2, 3, 0] rfl (h57 x3 x4 v11 D6)
        · refine z_iload (pc := 89) d_SF_heardIn_89 3 rfl ?_
          exact z_xret (pc := 91) d_SF_heardIn_91 rfl
    · refine z_aload_n (pc := 23) d_SF_heardIn_23 rfl 0 rfl ?_
      refine z_getR (pc := 24) fl_SF_26 d_SF_heardIn_24 (fun p12 => ?_)
      refine z_aload_n (pc := 27) d_SF_heardIn_27 rfl 0 rfl ?_
      refine z_getR (pc := 28) fl_SF_19 d_SF_heardIn_28 (fun p13 => ?_)
      refine z_callVv (pc := 31) [.ref p13] lkV_SF_70 rfl (c_Field_copyFrom z D3 p12 p13) (by decide) rfl rfl (Nat.le_of_ble_eq_true rfl) d_SF_heardIn_31 (fun D14 => ?_)
      refine z_iload_n (pc := 34) d_SF_heardIn_34 rfl 1 rfl ?_
      refine z_iload_n (pc := 35) d_SF_heardIn_35 rfl 2 rfl ?_
      refine z_callSi (pc := 36) [.int x1, .int x2] lkS_SF_271 (c_Ears_pairOf z D14 x1 x2) (by decide) rfl rfl (Nat.le_of_ble_eq_true rfl) d_SF_heardIn_36 (fun v15 D16 => ?_)
      refine z_istore_n (pc := 39) d_SF_heardIn_39 rfl (by decide) (lv' := [(3, .int v15), (0, .ref a), (1, .int x1), (2, .int x2)]) rfl ?_
      refine z_aload_n (pc := 40) d_SF_heardIn_40 rfl 1 rfl ?_
      refine z_getR (pc := 41) fl_SF_26 d_SF_heardIn_41 (fun p17 => ?_)
      refine z_getR (pc := 44) fl_SF_154 d_SF_heardIn_44 (fun p18 => ?_)
      refine z_getR (pc := 47) fl_SF_274 d_SF_heardIn_47 (fun p19 => ?_)
      refine z_iload_n (pc := 50) d_SF_heardIn_50 rfl 0 rfl ?_
      refine z_iaload (pc := 51) d_SF_heardIn_51 (fun v20 => ?_)
      refine z_istore (pc := 52) d_SF_heardIn_52 (by decide) (lv' := [(4, .int v20), (3, .int v15), (0, .ref a), (1, .int x1), (2, .int x2)]) rfl ?_
      refine z_iconst (pc := 54) d_SF_heardIn_54 ki_1 ?_
      refine z_istore (pc := 55) d_SF_heardIn_55 (by decide) (lv' := [(5, .int (1 : Int32)), (4, .int v20), (3, .int v15), (0, .ref a), (1, .int x1), (2, .int x2)]) rfl ?_
      exact z_sub [3, 2, 1, 0] rfl (h57 v15 v20 (1 : Int32) D16)
theorem d_SF_leastSpeed_0 : decode Y_SF_leastSpeed.2.1 0 = .ok (.iload_n 1, 1) := by decide +kernel
theorem d_SF_leastSpeed_1 : decode Y_SF_leastSpeed.2.1 1 = .ok (.iconst (1), 1) := by decide +kernel
theorem d_SF_leastSpeed_2 : decode Y_SF_leastSpeed.2.1 2 = .ok (.bipush (99), 2) := by decide +kernel
theorem d_SF_leastSpeed_4 : decode Y_SF_leastSpeed.2.1 4 = .ok (.invokestatic 40, 3) := by decide +kernel
theorem d_SF_leastSpeed_7 : decode Y_SF_leastSpeed.2.1 7 = .ok (.ifCond .ne (14), 3) := by decide +kernel
theorem d_SF_leastSpeed_10 : decode Y_SF_leastSpeed.2.1 10 = .ok (.new 44, 3) := by decide +kernel
theorem d_SF_leastSpeed_13 : decode Y_SF_leastSpeed.2.1 13 = .ok (.dup, 1) := by decide +kernel
theorem d_SF_leastSpeed_14 : decode Y_SF_leastSpeed.2.1 14 = .ok (.ldc_w 317, 3) := by decide +kernel
theorem d_SF_leastSpeed_17 : decode Y_SF_leastSpeed.2.1 17 = .ok (.invokespecial 48, 3) := by decide +kernel
theorem d_SF_leastSpeed_20 : decode Y_SF_leastSpeed.2.1 20 = .ok (.athrow, 1) := by decide +kernel
theorem d_SF_leastSpeed_21 : decode Y_SF_leastSpeed.2.1 21 = .ok (.iconst (1), 1) := by decide +kernel
theorem d_SF_leastSpeed_22 : decode Y_SF_leastSpeed.2.1 22 = .ok (.istore_n 2, 1) := by decide +kernel
theorem d_SF_leastSpeed_23 : decode Y_SF_leastSpeed.2.1 23 = .ok (.iload_n 2, 1) := by decide +kernel
theorem d_SF_leastSpeed_24 : decode Y_SF_leastSpeed.2.1 24 = .ok (.bipush (9), 2) := by decide +kernel
theorem d_SF_leastSpeed_26 : decode Y_SF_leastSpeed.2.1 26 = .ok (.if_icmp .gt (41), 3) := by decide +kernel
theorem d_SF_leastSpeed_29 : decode Y_SF_leastSpeed.2.1 29 = .ok (.aload_n 0, 1) := by decide +kernel
theorem d_SF_leastSpeed_30 : decode Y_SF_leastSpeed.2.1 30 = .ok (.getfield 26, 3) := by decide +kernel
theorem d_SF_leastSpeed_33 : decode Y_SF_leastSpeed.2.1 33 = .ok (.aload_n 0, 1) := by decide +kernel
theorem d_SF_leastSpeed_34 : decode Y_SF_leastSpeed.2.1 34 = .ok (.getfield 19, 3) := by decide +kernel
theorem d_SF_leastSpeed_37 : decode Y_SF_leastSpeed.2.1 37 = .ok (.invokevirtual 70, 3) := by decide +kernel
theorem d_SF_leastSpeed_40 : decode Y_SF_leastSpeed.2.1 40 = .ok (.aload_n 0, 1) := by decide +kernel
theorem d_SF_leastSpeed_41 : decode Y_SF_leastSpeed.2.1 41 = .ok (.getfield 26, 3) := by decide +kernel
theorem d_SF_leastSpeed_44 : decode Y_SF_leastSpeed.2.1 44 = .ok (.iload_n 2, 1) := by decide +kernel
theorem d_SF_leastSpeed_45 : decode Y_SF_leastSpeed.2.1 45 = .ok (.putfield 129, 3) := by decide +kernel
theorem d_SF_leastSpeed_48 : decode Y_SF_leastSpeed.2.1 48 = .ok (.aload_n 0, 1) := by decide +kernel
theorem d_SF_leastSpeed_49 : decode Y_SF_leastSpeed.2.1 49 = .ok (.getfield 26, 3) := by decide +kernel
theorem d_SF_leastSpeed_52 : decode Y_SF_leastSpeed.2.1 52 = .ok (.iload_n 1, 1) := by decide +kernel
theorem d_SF_leastSpeed_53 : decode Y_SF_leastSpeed.2.1 53 = .ok (.invokevirtual 348, 3) := by decide +kernel
theorem d_SF_leastSpeed_56 : decode Y_SF_leastSpeed.2.1 56 = .ok (.ifCond .ne (5), 3) := by decide +kernel
theorem d_SF_leastSpeed_59 : decode Y_SF_leastSpeed.2.1 59 = .ok (.iload_n 2, 1) := by decide +kernel
theorem d_SF_leastSpeed_60 : decode Y_SF_leastSpeed.2.1 60 = .ok (.ireturn, 1) := by decide +kernel
theorem d_SF_leastSpeed_61 : decode Y_SF_leastSpeed.2.1 61 = .ok (.iinc 2 (1), 3) := by decide +kernel
theorem d_SF_leastSpeed_64 : decode Y_SF_leastSpeed.2.1 64 = .ok (.goto (-41), 3) := by decide +kernel
theorem d_SF_leastSpeed_67 : decode Y_SF_leastSpeed.2.1 67 = .ok (.iconst (-1), 1) := by decide +kernel
theorem d_SF_leastSpeed_68 : decode Y_SF_leastSpeed.2.1 68 = .ok (.ireturn, 1) := by decide +kernel
def f_SF_leastSpeed (w : zW) (D : zD) (a : Nat) (x1 : Int32) : Option ((Int32 ⊕ String) × zD) := zci (f_SF_isWithin w D x1 (1 : Int32) (99 : Int32)) (fun v1 D2 => (if v1 = 0 then some (.inr "java/lang/IllegalArgumentException", D2) else zjp (zlp (fun (_ : Int32) (_ : zD) => none) (fun (j23 : Int32 → zD → Option ((Int32 ⊕ String) × zD)) (x2 : Int32) (D3 : zD) => (if (9 : Int32) < x2 then some (.inl (-1 : Int32), D3) else zref w 0 3 a (fun p4 => zref w 0 1 a (fun p5 => zobj w 3 p4 (zcv (f_Field_copyFrom w D3 p4 p5) (fun D6 => zref w 0 3 a (fun p7 => zput w D6 3 7 p7 x2 (fun D8 => zref w 0 3 a (fun p9 => zobj w 3 p9 (zci (f_Field_isLateWithin w D8 p9 x1) (fun v10 D11 => (if v10 = 0 then some (.inl x2, D11) else zlet (x2 + (1 : Int32)) (fun v12 => j23 v12 D11))))))))))))) zfuel) (fun j23 => j23 (1 : Int32) D2)))
set_option maxHeartbeats 4000000 in
set_option maxRecDepth 100000 in
theorem c_SF_leastSpeed (z : zT) (D : zD) (a : Nat) (x1 : Int32) : zMX Y_SF_leastSpeed 8 1 6 (zqX z) (f_SF_leastSpeed z.2 D a x1) [.ref a, .int x1] z D := by
  refine zMX_of (plainFor_of_name (by decide +kernel)) rfl (Nat.le_of_ble_eq_true rfl) (fun K => ?_)
  unfold f_SF_leastSpeed
  refine z_iload_n (pc := 0) d_SF_leastSpeed_0 rfl 1 rfl ?_
  refine z_iconst (pc := 1) d_SF_leastSpeed_1 ki_1 ?_
  refine z_bipush (pc := 2) d_SF_leastSpeed_2 kb_99 ?_
  refine z_callSi (pc := 4) [.int x1, .int (1 : Int32), .int (99 : Int32)] lkS_SF_40 (c_SF_isWithin z D x1 (1 : Int32) (99 : Int32)) (by decide) rfl rfl (Nat.le_of_ble_eq_true rfl) d_SF_leastSpeed_4 (fun v1 D2 => ?_)
  refine z_if_ne (pc := 7) (tgt := 21) d_SF_leastSpeed_7 (by decide) ?_ ?_
  · exact z_throwW (pc := 10) th_SF_44_317_48 rfl (by decide) (Nat.le_of_ble_eq_true rfl) (by decide) (by decide) d_SF_leastSpeed_10 d_SF_leastSpeed_13 d_SF_leastSpeed_14 d_SF_leastSpeed_17 d_SF_leastSpeed_20
  · refine z_jp (fun j23 : Int32 → zD → Option ((Int32 ⊕ String) × zD) => ∀ (x2 : Int32) (D3 : zD), zGO K Y_SF_leastSpeed 8 1 6 (zqX z) (j23 x2 D3) 1 6 z D3 23 [(0, .ref a), (1, .int x1), (2, .int x2)] []) (z_lp (fun j23 : Int32 → zD → Option ((Int32 ⊕ String) × zD) => ∀ (x2 : Int32) (D3 : zD), zGO K Y_SF_leastSpeed 8 1 6 (zqX z) (j23 x2 D3) 1 6 z D3 23 [(0, .ref a), (1, .int x1), (2, .int x2)] []) (fun _ _ => z_none) (fun j23 h23 x2 D3 => ?_) zfuel) (fun j23 h23 => ?_)
    · refine z_iload_n (pc := 23) d_SF_leastSpeed_23 rfl 2 rfl ?_
      refine z_bipush (pc := 24) d_SF_leastSpeed_24 kb_9 ?_
      refine z_icmp_gt (pc := 26) (tgt := 67) d_SF_leastSpeed_26 (by decide) ?_ ?_
      · refine z_iconst (pc := 67) d_SF_leastSpeed_67 ki_m1 ?_
        exact z_xret (pc := 68) d_SF_leastSpeed_68 rfl
      · refine z_aload_n (pc := 29) d_SF_leastSpeed_29 rfl 0 rfl ?_
        refine z_getR (pc := 30) fl_SF_26 d_SF_leastSpeed_30 (fun p4 => ?_)
        refine z_aload_n (pc := 33) d_SF_leastSpeed_33 rfl 0 rfl ?_
        refine z_getR (pc := 34) fl_SF_19 d_SF_leastSpeed_34 (fun p5 => ?_)
        refine z_callVv (pc := 37) [.ref p5] lkV_SF_70 rfl (c_Field_copyFrom z D3 p4 p5) (by decide) rfl rfl (Nat.le_of_ble_eq_true rfl) d_SF_leastSpeed_37 (fun D6 => ?_)
        refine z_aload_n (pc := 40) d_SF_leastSpeed_40 rfl 0 rfl ?_
        refine z_getR (pc := 41) fl_SF_26 d_SF_leastSpeed_41 (fun p7 => ?_)
        refine z_iload_n (pc := 44) d_SF_leastSpeed_44 rfl 2 rfl ?_
        refine z_putI (pc := 45) fl_SF_129 d_SF_leastSpeed_45 (fun D8 => ?_)
        refine z_aload_n (pc := 48) d_SF_leastSpeed_48 rfl 0 rfl ?_
        refine z_getR (pc := 49) fl_SF_26 d_SF_leastSpeed_49 (fun p9 => ?_)
        refine z_iload_n (pc := 52) d_SF_leastSpeed_52 rfl 1 rfl ?_
        refine z_callVi (pc := 53) [.int x1] lkV_SF_348 rfl (c_Field_isLateWithin z D8 p9 x1) (by decide) rfl rfl (Nat.le_of_ble_eq_true rfl) d_SF_leastSpeed_53 (fun v10 D11 => ?_)
        refine z_if_ne (pc := 56) (tgt := 61) d_SF_leastSpeed_56 (by decide) ?_ ?_
        · refine z_iload_n (pc := 59) d_SF_leastSpeed_59 rfl 2 rfl ?_
          exact z_xret (pc := 60) d_SF_leastSpeed_60 rfl
        · refine z_iincL (pc := 61) d_SF_leastSpeed_61 ki_1 2 rfl (by decide) (fun v12 => z_lvc (lv2 := [(2, .int v12), (0, .ref a), (1, .int x1)]) rfl ?_)
          refine z_goto (pc := 64) (tgt := 23) d_SF_leastSpeed_64 (by decide) ?_
          exact z_sub [1, 2, 0] rfl (h23 v12 D11)
    · refine z_iconst (pc := 21) d_SF_leastSpeed_21 ki_1 ?_
      refine z_istore_n (pc := 22) d_SF_leastSpeed_22 rfl (by decide) (lv' := [(2, .int (1 : Int32)), (0, .ref a), (1, .int x1)]) rfl ?_
      exact z_sub [1, 2, 0] rfl (h23 (1 : Int32) D2)
theorem d_SF_runScript_0 : decode Y_SF_runScript.2.1 0 = .ok (.iload_n 1, 1) := by decide +kernel
theorem d_SF_runScript_1 : decode Y_SF_runScript.2.1 1 = .ok (.iconst (1), 1) := by decide +kernel
theorem d_SF_runScript_2 : decode Y_SF_runScript.2.1 2 = .ok (.iconst (3), 1) := by decide +kernel
theorem d_SF_runScript_3 : decode Y_SF_runScript.2.1 3 = .ok (.invokestatic 40, 3) := by decide +kernel
theorem d_SF_runScript_6 : decode Y_SF_runScript.2.1 6 = .ok (.ifCond .ne (14), 3) := by decide +kernel
theorem d_SF_runScript_9 : decode Y_SF_runScript.2.1 9 = .ok (.new 44, 3) := by decide +kernel
theorem d_SF_runScript_12 : decode Y_SF_runScript.2.1 12 = .ok (.dup, 1) := by decide +kernel
theorem d_SF_runScript_13 : decode Y_SF_runScript.2.1 13 = .ok (.ldc_w 351, 3) := by decide +kernel
theorem d_SF_runScript_16 : decode Y_SF_runScript.2.1 16 = .ok (.invokespecial 48, 3) := by decide +kernel
theorem d_SF_runScript_19 : decode Y_SF_runScript.2.1 19 = .ok (.athrow, 1) := by decide +kernel
theorem d_SF_runScript_20 : decode Y_SF_runScript.2.1 20 = .ok (.lload_n 2, 1) := by decide +kernel
theorem d_SF_runScript_21 : decode Y_SF_runScript.2.1 21 = .ok (.lconst 0, 1) := by decide +kernel
theorem d_SF_runScript_22 : decode Y_SF_runScript.2.1 22 = .ok (.lcmp, 1) := by decide +kernel
theorem d_SF_runScript_23 : decode Y_SF_runScript.2.1 23 = .ok (.ifCond .lt (13), 3) := by decide +kernel
theorem d_SF_runScript_26 : decode Y_SF_runScript.2.1 26 = .ok (.lload_n 2, 1) := by decide +kernel
theorem d_SF_runScript_27 : decode Y_SF_runScript.2.1 27 = .ok (.getstatic 353, 3) := by decide +kernel
theorem d_SF_runScript_30 : decode Y_SF_runScript.2.1 30 = .ok (.iload_n 1, 1) := by decide +kernel
theorem d_SF_runScript_31 : decode Y_SF_runScript.2.1 31 = .ok (.laload, 1) := by decide +kernel
theorem d_SF_runScript_32 : decode Y_SF_runScript.2.1 32 = .ok (.lcmp, 1) := by decide +kernel
theorem d_SF_runScript_33 : decode Y_SF_runScript.2.1 33 = .ok (.ifCond .lt (14), 3) := by decide +kernel
theorem d_SF_runScript_36 : decode Y_SF_runScript.2.1 36 = .ok (.new 44, 3) := by decide +kernel
theorem d_SF_runScript_39 : decode Y_SF_runScript.2.1 39 = .ok (.dup, 1) := by decide +kernel
theorem d_SF_runScript_40 : decode Y_SF_runScript.2.1 40 = .ok (.ldc_w 357, 3) := by decide +kernel
theorem d_SF_runScript_43 : decode Y_SF_runScript.2.1 43 = .ok (.invokespecial 48, 3) := by decide +kernel
theorem d_SF_runScript_46 : decode Y_SF_runScript.2.1 46 = .ok (.athrow, 1) := by decide +kernel
theorem d_SF_runScript_47 : decode Y_SF_runScript.2.1 47 = .ok (.aload_n 0, 1) := by decide +kernel
theorem d_SF_runScript_48 : decode Y_SF_runScript.2.1 48 = .ok (.getfield 26, 3) := by decide +kernel
theorem d_SF_runScript_51 : decode Y_SF_runScript.2.1 51 = .ok (.aload_n 0, 1) := by decide +kernel
theorem d_SF_runScript_52 : decode Y_SF_runScript.2.1 52 = .ok (.getfield 19, 3) := by decide +kernel
theorem d_SF_runScript_55 : decode Y_SF_runScript.2.1 55 = .ok (.invokevirtual 70, 3) := by decide +kernel
theorem d_SF_runScript_58 : decode Y_SF_runScript.2.1 58 = .ok (.iconst (0), 1) := by decide +kernel
theorem d_SF_runScript_59 : decode Y_SF_runScript.2.1 59 = .ok (.istore 4, 2) := by decide +kernel
theorem d_SF_runScript_61 : decode Y_SF_runScript.2.1 61 = .ok (.iload 4, 2) := by decide +kernel
theorem d_SF_runScript_63 : decode Y_SF_runScript.2.1 63 = .ok (.iload_n 1, 1) := by decide +kernel
theorem d_SF_runScript_64 : decode Y_SF_runScript.2.1 64 = .ok (.if_icmp .ge (45), 3) := by decide +kernel
theorem d_SF_runScript_67 : decode Y_SF_runScript.2.1 67 = .ok (.lload_n 2, 1) := by decide +kernel
theorem d_SF_runScript_68 : decode Y_SF_runScript.2.1 68 = .ok (.getstatic 353, 3) := by decide +kernel
theorem d_SF_runScript_71 : decode Y_SF_runScript.2.1 71 = .ok (.iload_n 1, 1) := by decide +kernel
theorem d_SF_runScript_72 : decode Y_SF_runScript.2.1 72 = .ok (.iconst (1), 1) := by decide +kernel
theorem d_SF_runScript_73 : decode Y_SF_runScript.2.1 73 = .ok (.isub, 1) := by decide +kernel
theorem d_SF_runScript_74 : decode Y_SF_runScript.2.1 74 = .ok (.iload 4, 2) := by decide +kernel
theorem d_SF_runScript_76 : decode Y_SF_runScript.2.1 76 = .ok (.isub, 1) := by decide +kernel
theorem d_SF_runScript_77 : decode Y_SF_runScript.2.1 77 = .ok (.laload, 1) := by decide +kernel
theorem d_SF_runScript_78 : decode Y_SF_runScript.2.1 78 = .ok (.ldiv, 1) := by decide +kernel
theorem d_SF_runScript_79 : decode Y_SF_runScript.2.1 79 = .ok (.getstatic 353, 3) := by decide +kernel
theorem d_SF_runScript_82 : decode Y_SF_runScript.2.1 82 = .ok (.iconst (1), 1) := by decide +kernel
theorem d_SF_runScript_83 : decode Y_SF_runScript.2.1 83 = .ok (.laload, 1) := by decide +kernel
theorem d_SF_runScript_84 : decode Y_SF_runScript.2.1 84 = .ok (.lrem, 1) := by decide +kernel
theorem d_SF_runScript_85 : decode Y_SF_runScript.2.1 85 = .ok (.l2i, 1) := by decide +kernel
theorem d_SF_runScript_86 : decode Y_SF_runScript.2.1 86 = .ok (.istore 5, 2) := by decide +kernel
theorem d_SF_runScript_88 : decode Y_SF_runScript.2.1 88 = .ok (.aload_n 0, 1) := by decide +kernel
theorem d_SF_runScript_89 : decode Y_SF_runScript.2.1 89 = .ok (.getfield 26, 3) := by decide +kernel
theorem d_SF_runScript_92 : decode Y_SF_runScript.2.1 92 = .ok (.iload 5, 2) := by decide +kernel
theorem d_SF_runScript_94 : decode Y_SF_runScript.2.1 94 = .ok (.invokestatic 359, 3) := by decide +kernel
theorem d_SF_runScript_97 : decode Y_SF_runScript.2.1 97 = .ok (.ifCond .ne (6), 3) := by decide +kernel
theorem d_SF_runScript_100 : decode Y_SF_runScript.2.1 100 = .ok (.iload 4, 2) := by decide +kernel
theorem d_SF_runScript_102 : decode Y_SF_runScript.2.1 102 = .ok (.ireturn, 1) := by decide +kernel
theorem d_SF_runScript_103 : decode Y_SF_runScript.2.1 103 = .ok (.iinc 4 (1), 3) := by decide +kernel
theorem d_SF_runScript_106 : decode Y_SF_runScript.2.1 106 = .ok (.goto (-45), 3) := by decide +kernel
theorem d_SF_runScript_109 : decode Y_SF_runScript.2.1 109 = .ok (.iconst (-1), 1) := by decide +kernel
theorem d_SF_runScript_110 : decode Y_SF_runScript.2.1 110 = .ok (.ireturn, 1) := by decide +kernel
def f_SF_runScript (w : zW) (D : zD) (a : Nat) (x1 : Int32) (l2 : Int64) : Option ((Int32 ⊕ String) × zD) := zci (f_SF_isWithin w D x1 (1 : Int32) (3 : Int32)) (fun v1 D2 => (if v1 = 0 then some (.inr "java/lang/IllegalArgumentException", D2) else zjp (fun (D3 : zD) => some (.inr "java/lang/IllegalArgumentException", D3)) (fun j36 => zlet (lg_cmp l2 (0 : Int64)) (fun v4 => (if v4 < 0 then j36 D2 else zaldL w 5 w.2.2 x1 (fun v5 => zlet (lg_cmp l2 v5) (fun v6 => (if v6 < 0 then zjp (zlp (fun (_ : Int32) (_ : zD) => none) (fun (j61 : Int32 → zD → Option ((Int32 ⊕ String) × zD)) (x4 : Int32) (D7 : zD) => (if x1 ≤ x4 then some (.inl (-1 : Int32), D7) else zaldL w 5 w.2.2 ((x1 - (1 : Int32)) - x4) (fun v8 => zchk (¬ v8 = 0) (zaldL w 5 w.2.2 (1 : Int32) (fun v9 => zchk (¬ v9 = 0) (zlet ((zlrem (l2 / v8) v9).toInt32) (fun v10 => zref w 0 3 a (fun p11 => zci (f_SF_succeeds w D7 p11 v10) (fun v12 D13 => (if v12 = 0 then some (.inl x4, D13) else zlet (x4 + (1 : Int32)) (fun v14 => j61 v14 D13))))))))))) zfuel) (fun j61 => zref w 0 3 a (fun p15 => zref w 0 1 a (fun p16 => zobj w 3 p15 (zcv (f_Field_copyFrom w D2 p15 p16) (fun D17 => j61 (0 : Int32) D17))))) else j36 D2))))))))
set_option maxHeartbeats 4000000 in
set_option maxRecDepth 100000 in
theorem c_SF_runScript (z : zT) (D : zD) (a : Nat) (x1 : Int32) (l2 : Int64) : zMX Y_SF_runScript 8 1 6 (zqX z) (f_SF_runScript z.2 D a x1 l2) [.ref a, .int x1, .long l2] z D := by
  refine zMX_of (plainFor_of_name (by decide +kernel)) rfl (Nat.le_of_ble_eq_true rfl) (fun K => ?_)
  unfold f_SF_runScript
  refine z_iload_n (pc := 0) d_SF_runScript_0 rfl 1 rfl ?_
  refine z_iconst (pc := 1) d_SF_runScript_1 ki_1 ?_
  refine z_iconst (pc := 2) d_SF_runScript_2 ki_3 ?_
  refine z_callSi (pc := 3) [.int x1, .int (1 : Int32), .int (3 : Int32)] lkS_SF_40 (c_SF_isWithin z D x1 (1 : Int32) (3 : Int32)) (by decide) rfl rfl (Nat.le_of_ble_eq_true rfl) d_SF_runScript_3 (fun v1 D2 => ?_)
  refine z_if_ne (pc := 6) (tgt := 20) d_SF_runScript_6 (by decide) ?_ ?_
  · exact z_throwW (pc := 9) th_SF_44_351_48 rfl (by decide) (Nat.le_of_ble_eq_true rfl) (by decide) (by decide) d_SF_runScript_9 d_SF_runScript_12 d_SF_runScript_13 d_SF_runScript_16 d_SF_runScript_19
  · refine z_jp (fun j36 : zD → Option ((Int32 ⊕ String) × zD) => ∀ (D3 : zD), zGO K Y_SF_runScript 8 1 6 (zqX z) (j36  D3) 1 6 z D3 36 [] []) (fun  D3 => ?_) (fun j36 h36 => ?_)
    · exact z_throwW (pc := 36) th_SF_44_357_48 rfl (by decide) (Nat.le_of_ble_eq_true rfl) (by decide) (by decide) d_SF_runScript_36 d_SF_runScript_39 d_SF_runScript_40 d_SF_runScript_43 d_SF_runScript_46
    · refine z_lload_n (pc := 20) d_SF_runScript_20 rfl 2 rfl ?_
      refine z_lconst (pc := 21) d_SF_runScript_21 (v := 0) rfl ?_
      refine z_lcmp (pc := 22) d_SF_runScript_22 (fun v4 => ?_)
      refine z_if_lt (pc := 23) (tgt := 36) d_SF_runScript_23 (by decide) ?_ ?_
      · exact z_sub [] rfl (h36 D2)
      · refine z_lload_n (pc := 26) d_SF_runScript_26 rfl 2 rfl ?_
        refine z_getP (pc := 27) w_fl_SF_353 d_SF_runScript_27 ?_
        refine z_iload_n (pc := 30) d_SF_runScript_30 rfl 1 rfl ?_
        refine z_laloadR (pc := 31) d_SF_runScript_31 (fun v5 => ?_)
        refine z_lcmp (pc := 32) d_SF_runScript_32 (fun v6 => ?_)
        refine z_if_lt (pc := 33) (tgt := 47) d_SF_runScript_33 (by decide) ?_ ?_
        · refine z_jp (fun j61 : Int32 → zD → Option ((Int32 ⊕ String) × zD) => ∀ (x4 : Int32) (D7 : zD), zGO K Y_SF_runScript 8 1 6 (zqX z) (j61 x4 D7) 1 6 z D7 61 [(0, .ref a), (1, .int x1), (2, .long l2), (4, .int x4)] []) (z_lp (fun j61 : Int32 → zD → Option ((Int32 ⊕ String) × zD) => ∀ (x4 : Int32) (D7 : zD), zGO K Y_SF_runScript 8 1 6 (zqX z) (j61 x4 D7) 1 6 z D7 61 [(0, .ref a), (1, .int x1), (2, .long l2), (4, .int x4)] []) (fun _ _ => z_none) (fun j61 h61 x4 D7 => ?_) zfuel) (fun j61 h61 => ?_)
          · refine z_iload (pc := 61) d_SF_runScript_61 3 rfl ?_
            refine z_iload_n (pc := 63) d_SF_runScript_63 rfl 1 rfl ?_
            refine z_icmp_ge (pc := 64) (tgt := 109) d_SF_runScript_64 (by decide) ?_ ?_
            · refine z_iconst (pc := 109) d_SF_runScript_109 ki_m1 ?_
              exact z_xret (pc := 110) d_SF_runScript_110 rfl
            · refine z_lload_n (pc := 67) d_SF_runScript_67 rfl 2 rfl ?_
              refine z_getP (pc := 68) w_fl_SF_353 d_SF_runScript_68 ?_
              refine z_iload_n (pc := 71) d_SF_runScript_71 rfl 1 rfl ?_
              refine z_iconst (pc := 72) d_SF_runScript_72 ki_1 ?_
              refine z_isub (pc := 73) d_SF_runScript_73 ?_
              refine z_iload (pc := 74) d_SF_runScript_74 3 rfl ?_
              refine z_isub (pc := 76) d_SF_runScript_76 ?_
              refine z_laloadR (pc := 77) d_SF_runScript_77 (fun v8 => ?_)
              refine z_ldiv (pc := 78) d_SF_runScript_78 ?_
              refine z_getP (pc := 79) w_fl_SF_353 d_SF_runScript_79 ?_
              refine z_iconst (pc := 82) d_SF_runScript_82 ki_1 ?_
              refine z_laloadR (pc := 83) d_SF_runScript_83 (fun v9 => ?_)
              refine z_lrem (pc := 84) d_SF_runScript_84 ?_
              refine z_l2i (pc := 85) d_SF_runScript_85 ?_
              refine z_leti (fun v10 => ?_)
              refine z_istore (pc := 86) d_SF_runScript_86 (by decide) (lv' := [(5, .int v10), (0, .ref a), (1, .int x1), (2, .long l2), (4, .int x4)]) rfl ?_
              refine z_aload_n (pc := 88) d_SF_runScript_88 rfl 1 rfl ?_
              refine z_getR (pc := 89) fl_SF_26 d_SF_runScript_89 (fun p11 => ?_)
              refine z_iload (pc := 92) d_SF_runScript_92 0 rfl ?_
              refine z_callSi (pc := 94) [.ref p11, .int v10] lkS_SF_359 (c_SF_succeeds z D7 p11 v10) (by decide) rfl rfl (Nat.le_of_ble_eq_true rfl) d_SF_runScript_94 (fun v12 D13 => ?_)
              refine z_if_ne (pc := 97) (tgt := 103) d_SF_runScript_97 (by decide) ?_ ?_
              · refine z_iload (pc := 100) d_SF_runScript_100 4 rfl ?_
                exact z_xret (pc := 102) d_SF_runScript_102 rfl
              · refine z_iincL (pc := 103) d_SF_runScript_103 ki_1 4 rfl (by decide) (fun v14 => z_lvc (lv2 := [(4, .int v14), (5, .int v10), (0, .ref a), (1, .int x1), (2, .long l2)]) rfl ?_)
                refine z_goto (pc := 106) (tgt := 61) d_SF_runScript_106 (by decide) ?_
                exact z_sub [2, 3, 4, 0] rfl (h61 v14 D13)
          · refine z_aload_n (pc := 47) d_SF_runScript_47 rfl 0 rfl ?_
            refine z_getR (pc := 48) fl_SF_26 d_SF_runScript_48 (fun p15 => ?_)
            refine z_aload_n (pc := 51) d_SF_runScript_51 rfl 0 rfl ?_
            refine z_getR (pc := 52) fl_SF_19 d_SF_runScript_52 (fun p16 => ?_)
            refine z_callVv (pc := 55) [.ref p16] lkV_SF_70 rfl (c_Field_copyFrom z D2 p15 p16) (by decide) rfl rfl (Nat.le_of_ble_eq_true rfl) d_SF_runScript_55 (fun D17 => ?_)
            refine z_iconst (pc := 58) d_SF_runScript_58 ki_0 ?_
            refine z_istore (pc := 59) d_SF_runScript_59 (by decide) (lv' := [(4, .int (0 : Int32)), (0, .ref a), (1, .int x1), (2, .long l2)]) rfl ?_
            exact z_sub [1, 2, 3, 0] rfl (h61 (0 : Int32) D17)
        · exact z_sub [] rfl (h36 D2)
theorem d_SF_simulate_0 : decode Y_SF_simulate.2.1 0 = .ok (.iload_n 3, 1) := by decide +kernel
theorem d_SF_simulate_1 : decode Y_SF_simulate.2.1 1 = .ok (.iconst (1), 1) := by decide +kernel
theorem d_SF_simulate_2 : decode Y_SF_simulate.2.1 2 = .ok (.bipush (60), 2) := by decide +kernel
theorem d_SF_simulate_4 : decode Y_SF_simulate.2.1 4 = .ok (.invokestatic 40, 3) := by decide +kernel
theorem d_SF_simulate_7 : decode Y_SF_simulate.2.1 7 = .ok (.ifCond .ne (14), 3) := by decide +kernel
theorem d_SF_simulate_10 : decode Y_SF_simulate.2.1 10 = .ok (.new 44, 3) := by decide +kernel
theorem d_SF_simulate_13 : decode Y_SF_simulate.2.1 13 = .ok (.dup, 1) := by decide +kernel
theorem d_SF_simulate_14 : decode Y_SF_simulate.2.1 14 = .ok (.ldc_w 363, 3) := by decide +kernel
theorem d_SF_simulate_17 : decode Y_SF_simulate.2.1 17 = .ok (.invokespecial 48, 3) := by decide +kernel
theorem d_SF_simulate_20 : decode Y_SF_simulate.2.1 20 = .ok (.athrow, 1) := by decide +kernel
theorem d_SF_simulate_21 : decode Y_SF_simulate.2.1 21 = .ok (.aload_n 0, 1) := by decide +kernel
theorem d_SF_simulate_22 : decode Y_SF_simulate.2.1 22 = .ok (.getfield 26, 3) := by decide +kernel
theorem d_SF_simulate_25 : decode Y_SF_simulate.2.1 25 = .ok (.aload_n 0, 1) := by decide +kernel
theorem d_SF_simulate_26 : decode Y_SF_simulate.2.1 26 = .ok (.getfield 19, 3) := by decide +kernel
theorem d_SF_simulate_29 : decode Y_SF_simulate.2.1 29 = .ok (.invokevirtual 70, 3) := by decide +kernel
theorem d_SF_simulate_32 : decode Y_SF_simulate.2.1 32 = .ok (.aload_n 0, 1) := by decide +kernel
theorem d_SF_simulate_33 : decode Y_SF_simulate.2.1 33 = .ok (.getfield 26, 3) := by decide +kernel
theorem d_SF_simulate_36 : decode Y_SF_simulate.2.1 36 = .ok (.getfield 154, 3) := by decide +kernel
theorem d_SF_simulate_39 : decode Y_SF_simulate.2.1 39 = .ok (.getfield 158, 3) := by decide +kernel
theorem d_SF_simulate_42 : decode Y_SF_simulate.2.1 42 = .ok (.istore 4, 2) := by decide +kernel
theorem d_SF_simulate_44 : decode Y_SF_simulate.2.1 44 = .ok (.aload_n 0, 1) := by decide +kernel
theorem d_SF_simulate_45 : decode Y_SF_simulate.2.1 45 = .ok (.getfield 26, 3) := by decide +kernel
theorem d_SF_simulate_48 : decode Y_SF_simulate.2.1 48 = .ok (.getfield 154, 3) := by decide +kernel
theorem d_SF_simulate_51 : decode Y_SF_simulate.2.1 51 = .ok (.getfield 166, 3) := by decide +kernel
theorem d_SF_simulate_54 : decode Y_SF_simulate.2.1 54 = .ok (.istore 5, 2) := by decide +kernel
theorem d_SF_simulate_56 : decode Y_SF_simulate.2.1 56 = .ok (.lload_n 1, 1) := by decide +kernel
theorem d_SF_simulate_57 : decode Y_SF_simulate.2.1 57 = .ok (.lstore 6, 2) := by decide +kernel
theorem d_SF_simulate_59 : decode Y_SF_simulate.2.1 59 = .ok (.iconst (0), 1) := by decide +kernel
theorem d_SF_simulate_60 : decode Y_SF_simulate.2.1 60 = .ok (.istore 8, 2) := by decide +kernel
theorem d_SF_simulate_62 : decode Y_SF_simulate.2.1 62 = .ok (.iload 8, 2) := by decide +kernel
theorem d_SF_simulate_64 : decode Y_SF_simulate.2.1 64 = .ok (.iload_n 3, 1) := by decide +kernel
theorem d_SF_simulate_65 : decode Y_SF_simulate.2.1 65 = .ok (.if_icmp .ge (34), 3) := by decide +kernel
theorem d_SF_simulate_68 : decode Y_SF_simulate.2.1 68 = .ok (.lload 6, 2) := by decide +kernel
theorem d_SF_simulate_70 : decode Y_SF_simulate.2.1 70 = .ok (.ldc2_w 365, 3) := by decide +kernel
theorem d_SF_simulate_73 : decode Y_SF_simulate.2.1 73 = .ok (.lmul, 1) := by decide +kernel
theorem d_SF_simulate_74 : decode Y_SF_simulate.2.1 74 = .ok (.ldc2_w 367, 3) := by decide +kernel
theorem d_SF_simulate_77 : decode Y_SF_simulate.2.1 77 = .ok (.ladd, 1) := by decide +kernel
theorem d_SF_simulate_78 : decode Y_SF_simulate.2.1 78 = .ok (.lstore 6, 2) := by decide +kernel
theorem d_SF_simulate_80 : decode Y_SF_simulate.2.1 80 = .ok (.aload_n 0, 1) := by decide +kernel
theorem d_SF_simulate_81 : decode Y_SF_simulate.2.1 81 = .ok (.getfield 26, 3) := by decide +kernel
theorem d_SF_simulate_84 : decode Y_SF_simulate.2.1 84 = .ok (.lload 6, 2) := by decide +kernel
theorem d_SF_simulate_86 : decode Y_SF_simulate.2.1 86 = .ok (.bipush (33), 2) := by decide +kernel
theorem d_SF_simulate_88 : decode Y_SF_simulate.2.1 88 = .ok (.lushr, 1) := by decide +kernel
theorem d_SF_simulate_89 : decode Y_SF_simulate.2.1 89 = .ok (.l2i, 1) := by decide +kernel
theorem d_SF_simulate_90 : decode Y_SF_simulate.2.1 90 = .ok (.invokestatic 369, 3) := by decide +kernel
theorem d_SF_simulate_93 : decode Y_SF_simulate.2.1 93 = .ok (.iinc 8 (1), 3) := by decide +kernel
theorem d_SF_simulate_96 : decode Y_SF_simulate.2.1 96 = .ok (.goto (-34), 3) := by decide +kernel
theorem d_SF_simulate_99 : decode Y_SF_simulate.2.1 99 = .ok (.aload_n 0, 1) := by decide +kernel
theorem d_SF_simulate_100 : decode Y_SF_simulate.2.1 100 = .ok (.getfield 26, 3) := by decide +kernel
theorem d_SF_simulate_103 : decode Y_SF_simulate.2.1 103 = .ok (.getfield 154, 3) := by decide +kernel
theorem d_SF_simulate_106 : decode Y_SF_simulate.2.1 106 = .ok (.getfield 158, 3) := by decide +kernel
theorem d_SF_simulate_109 : decode Y_SF_simulate.2.1 109 = .ok (.iload 4, 2) := by decide +kernel
theorem d_SF_simulate_111 : decode Y_SF_simulate.2.1 111 = .ok (.isub, 1) := by decide +kernel
theorem d_SF_simulate_112 : decode Y_SF_simulate.2.1 112 = .ok (.istore 8, 2) := by decide +kernel
theorem d_SF_simulate_114 : decode Y_SF_simulate.2.1 114 = .ok (.aload_n 0, 1) := by decide +kernel
theorem d_SF_simulate_115 : decode Y_SF_simulate.2.1 115 = .ok (.getfield 26, 3) := by decide +kernel
theorem d_SF_simulate_118 : decode Y_SF_simulate.2.1 118 = .ok (.getfield 154, 3) := by decide +kernel
theorem d_SF_simulate_121 : decode Y_SF_simulate.2.1 121 = .ok (.getfield 166, 3) := by decide +kernel
theorem d_SF_simulate_124 : decode Y_SF_simulate.2.1 124 = .ok (.iload 5, 2) := by decide +kernel
theorem d_SF_simulate_126 : decode Y_SF_simulate.2.1 126 = .ok (.isub, 1) := by decide +kernel
theorem d_SF_simulate_127 : decode Y_SF_simulate.2.1 127 = .ok (.istore 9, 2) := by decide +kernel
theorem d_SF_simulate_129 : decode Y_SF_simulate.2.1 129 = .ok (.sipush (10000), 3) := by decide +kernel
theorem d_SF_simulate_132 : decode Y_SF_simulate.2.1 132 = .ok (.iload 8, 2) := by decide +kernel
theorem d_SF_simulate_134 : decode Y_SF_simulate.2.1 134 = .ok (.sipush (10000), 3) := by decide +kernel
theorem d_SF_simulate_137 : decode Y_SF_simulate.2.1 137 = .ok (.irem, 1) := by decide +kernel
theorem d_SF_simulate_138 : decode Y_SF_simulate.2.1 138 = .ok (.imul, 1) := by decide +kernel
theorem d_SF_simulate_139 : decode Y_SF_simulate.2.1 139 = .ok (.bipush (100), 2) := by decide +kernel
theorem d_SF_simulate_141 : decode Y_SF_simulate.2.1 141 = .ok (.iload 9, 2) := by decide +kernel
theorem d_SF_simulate_143 : decode Y_SF_simulate.2.1 143 = .ok (.bipush (100), 2) := by decide +kernel
theorem d_SF_simulate_145 : decode Y_SF_simulate.2.1 145 = .ok (.irem, 1) := by decide +kernel
theorem d_SF_simulate_146 : decode Y_SF_simulate.2.1 146 = .ok (.imul, 1) := by decide +kernel
theorem d_SF_simulate_147 : decode Y_SF_simulate.2.1 147 = .ok (.iadd, 1) := by decide +kernel
theorem d_SF_simulate_148 : decode Y_SF_simulate.2.1 148 = .ok (.aload_n 0, 1) := by decide +kernel
theorem d_SF_simulate_149 : decode Y_SF_simulate.2.1 149 = .ok (.getfield 26, 3) := by decide +kernel
theorem d_SF_simulate_152 : decode Y_SF_simulate.2.1 152 = .ok (.getfield 144, 3) := by decide +kernel
theorem d_SF_simulate_155 : decode Y_SF_simulate.2.1 155 = .ok (.getfield 148, 3) := by decide +kernel
theorem d_SF_simulate_158 : decode Y_SF_simulate.2.1 158 = .ok (.iadd, 1) := by decide +kernel
theorem d_SF_simulate_159 : decode Y_SF_simulate.2.1 159 = .ok (.ireturn, 1) := by decide +kernel
def f_SF_simulate (w : zW) (D : zD) (a : Nat) (l1 : Int64) (x3 : Int32) : Option ((Int32 ⊕ String) × zD) := zci (f_SF_isWithin w D x3 (1 : Int32) (60 : Int32)) (fun v1 D2 => (if v1 = 0 then some (.inr "java/lang/IllegalArgumentException", D2) else zjp (zlp (fun (_ : Int32) (_ : Int32) (_ : Int64) (_ : Int32) (_ : zD) => none) (fun (j62 : Int32 → Int32 → Int64 → Int32 → zD → Option ((Int32 ⊕ String) × zD)) (x4 : Int32) (x5 : Int32) (l6 : Int64) (x8 : Int32) (D3 : zD) => (if x3 ≤ x8 then zref w 0 3 a (fun p4 => zref w 3 4 p4 (fun p5 => zfld w D3 1 6 p5 (fun v6 => zlet (v6 - x4) (fun v7 => zref w 0 3 a (fun p8 => zref w 3 4 p8 (fun p9 => zfld w D3 1 8 p9 (fun v10 => zlet (v10 - x5) (fun v11 => zref w 0 3 a (fun p12 => zref w 3 3 p12 (fun p13 => zfld w D3 5 7 p13 (fun v14 => some (.inl ((((10000 : Int32) * (zirem v7 (10000 : Int32))) + ((100 : Int32) * (zirem v11 (100 : Int32)))) + v14), D3)))))))))))) else zlet ((l6 * (6364136223846793005 : Int64)) + (1442695040888963407 : Int64)) (fun v15 => zref w 0 3 a (fun p16 => zcv (f_SF_takeTurn w D3 p16 (((v15.toUInt64 >>> ((33 : Int32).toInt64.toUInt64 &&& Int64.toUInt64 63)).toInt64).toInt32)) (fun D17 => zlet (x8 + (1 : Int32)) (fun v18 => j62 x4 x5 v15 v18 D17)))))) zfuel) (fun j62 => zref w 0 3 a (fun p19 => zref w 0 1 a (fun p20 => zobj w 3 p19 (zcv (f_Field_copyFrom w D2 p19 p20) (fun D21 => zref w 0 3 a (fun p22 => zref w 3 4 p22 (fun p23 => zfld w D21 1 6 p23 (fun v24 => zref w 0 3 a (fun p25 => zref w 3 4 p25 (fun p26 => zfld w D21 1 8 p26 (fun v27 => j62 v24 v27 l1 (0 : Int32) D21)))))))))))))
set_option maxHeartbeats 4000000 in
set_option maxRecDepth 100000 in
theorem c_SF_simulate (z : zT) (D : zD) (a : Nat) (l1 : Int64) (x3 : Int32) : zMX Y_SF_simulate 8 1 6 (zqX z) (f_SF_simulate z.2 D a l1 x3) [.ref a, .long l1, .int x3] z D := by
  refine zMX_of (plainFor_of_name (by decide +kernel)) rfl (Nat.le_of_ble_eq_true rfl) (fun K => ?_)
  unfold f_SF_simulate
  refine z_iload_n (pc := 0) d_SF_simulate_0 rfl 2 rfl ?_
  refine z_iconst (pc := 1) d_SF_simulate_1 ki_1 ?_
  refine z_bipush (pc := 2) d_SF_simulate_2 kb_60 ?_
  refine z_callSi (pc := 4) [.int x3, .int (1 : Int32), .int (60 : Int32)] lkS_SF_40 (c_SF_isWithin z D x3 (1 : Int32) (60 : Int32)) (by decide) rfl rfl (Nat.le_of_ble_eq_true rfl) d_SF_simulate_4 (fun v1 D2 => ?_)
  refine z_if_ne (pc := 7) (tgt := 21) d_SF_simulate_7 (by decide) ?_ ?_
  · exact z_throwW (pc := 10) th_SF_44_363_48 rfl (by decide) (Nat.le_of_ble_eq_true rfl) (by decide) (by decide) d_SF_simulate_10 d_SF_simulate_13 d_SF_simulate_14 d_SF_simulate_17 d_SF_simulate_20
  · refine z_jp (fun j62 : Int32 → Int32 → Int64 → Int32 → zD → Option ((Int32 ⊕ String) × zD) => ∀ (x4 : Int32) (x5 : Int32) (l6 : Int64) (x8 : Int32) (D3 : zD), zGO K Y_SF_simulate 8 1 6 (zqX z) (j62 x4 x5 l6 x8 D3) 1 6 z D3 62 [(0, .ref a), (3, .int x3), (4, .int x4), (5, .int x5), (6, .long l6), (8, .int x8)] []) (z_lp (fun j62 : Int32 → Int32 → Int64 → Int32 → zD → Option ((Int32 ⊕ String) × zD) => ∀ (x4 : Int32) (x5 : Int32) (l6 : Int64) (x8 : Int32) (D3 : zD), zGO K Y_SF_simulate 8 1 6 (zqX z) (j62 x4 x5 l6 x8 D3) 1 6 z D3 62 [(0, .ref a), (3, .int x3), (4, .int x4), (5, .int x5), (6, .long l6), (8, .int x8)] []) (fun _ _ _ _ _ => z_none) (fun j62 h62 x4 x5 l6 x8 D3 => ?_) zfuel) (fun j62 h62 => ?_)
    · refine z_iload (pc := 62) d_SF_simulate_62 5 rfl ?_
      refine z_iload_n (pc := 64) d_SF_simulate_64 rfl 1 rfl ?_
      refine z_icmp_ge (pc := 65) (tgt := 99) d_SF_simulate_65 (by decide) ?_ ?_
      · refine z_aload_n (pc := 99) d_SF_simulate_99 rfl 0 rfl ?_
        refine z_getR (pc := 100) fl_SF_26 d_SF_simulate_100 (fun p4 => ?_)
        refine z_getR (pc := 103) fl_SF_154 d_SF_simulate_103 (fun p5 => ?_)
        refine z_getI (pc := 106) fl_SF_158 d_SF_simulate_106 (fun v6 => ?_)
        refine z_iload (pc := 109) d_SF_simulate_109 2 rfl ?_
        refine z_isub (pc := 111) d_SF_simulate_111 ?_
        refine z_leti (fun v7 => ?_)
        refine z_istore (pc := 112) d_SF_simulate_112 (by decide) (lv' := [(8, .int v7), (0, .ref a), (3, .int x3), (4, .int x4), (5, .int x5), (6, .long l6)]) rfl ?_
        refine z_aload_n (pc := 114) d_SF_simulate_114 rfl 1 rfl ?_
        refine z_getR (pc := 115) fl_SF_26 d_SF_simulate_115 (fun p8 => ?_)
        refine z_getR (pc := 118) fl_SF_154 d_SF_simulate_118 (fun p9 => ?_)
        refine z_getI (pc := 121) fl_SF_166 d_SF_simulate_121 (fun v10 => ?_)
        refine z_iload (pc := 124) d_SF_simulate_124 4 rfl ?_
        refine z_isub (pc := 126) d_SF_simulate_126 ?_
        refine z_leti (fun v11 => ?_)
        refine z_istore (pc := 127) d_SF_simulate_127 (by decide) (lv' := [(9, .int v11), (8, .int v7), (0, .ref a), (3, .int x3), (4, .int x4), (5, .int x5), (6, .long l6)]) rfl ?_
        refine z_sipush (pc := 129) d_SF_simulate_129 ks_10000 ?_
        refine z_iload (pc := 132) d_SF_simulate_132 1 rfl ?_
        refine z_sipush (pc := 134) d_SF_simulate_134 ks_10000 ?_
        refine z_iremK (pc := 137) d_SF_simulate_137 (by decide) ?_
        refine z_imul (pc := 138) d_SF_simulate_138 ?_
        refine z_bipush (pc := 139) d_SF_simulate_139 kb_100 ?_
        refine z_iload (pc := 141) d_SF_simulate_141 0 rfl ?_
        refine z_bipush (pc := 143) d_SF_simulate_143 kb_100 ?_
        refine z_iremK (pc := 145) d_SF_simulate_145 (by decide) ?_
        refine z_imul (pc := 146) d_SF_simulate_146 ?_
        refine z_iadd (pc := 147) d_SF_simulate_147 ?_
        refine z_aload_n (pc := 148) d_SF_simulate_148 rfl 2 rfl ?_
        refine z_getR (pc := 149) fl_SF_26 d_SF_simulate_149 (fun p12 => ?_)
        refine z_getR (pc := 152) fl_SF_144 d_SF_simulate_152 (fun p13 => ?_)
        refine z_getI (pc := 155) fl_SF_148 d_SF_simulate_155 (fun v14 => ?_)
        refine z_iadd (pc := 158) d_SF_simulate_158 ?_
        exact z_xret (pc := 159) d_SF_simulate_159 rfl
      · refine z_lload (pc := 68) d_SF_simulate_68 4 rfl ?_
        refine z_ldc2 (pc := 70) w_k_SF_365 d_SF_simulate_70 ?_
        refine z_lmul (pc := 73) d_SF_simulate_73 ?_
        refine z_ldc2 (pc := 74) w_k_SF_367 d_SF_simulate_74 ?_
        refine z_ladd (pc := 77) d_SF_simulate_77 ?_
        refine z_letl (fun v15 => ?_)
        refine z_lstore (pc := 78) d_SF_simulate_78 (by decide) (lv' := [(6, .long v15), (0, .ref a), (3, .int x3), (4, .int x4), (5, .int x5), (8, .int x8)]) rfl ?_
        refine z_aload_n (pc := 80) d_SF_simulate_80 rfl 1 rfl ?_
        refine z_getR (pc := 81) fl_SF_26 d_SF_simulate_81 (fun p16 => ?_)
        refine z_lload (pc := 84) d_SF_simulate_84 0 rfl ?_
        refine z_bipush (pc := 86) d_SF_simulate_86 kb_33 ?_
        refine z_lushr (pc := 88) d_SF_simulate_88 ?_
        refine z_l2i (pc := 89) d_SF_simulate_89 ?_
        refine z_callSv (pc := 90) [.ref p16, .int (((v15.toUInt64 >>> ((33 : Int32).toInt64.toUInt64 &&& Int64.toUInt64 63)).toInt64).toInt32)] lkS_SF_369 (c_SF_takeTurn z D3 p16 (((v15.toUInt64 >>> ((33 : Int32).toInt64.toUInt64 &&& Int64.toUInt64 63)).toInt64).toInt32)) (by decide) rfl rfl (Nat.le_of_ble_eq_true rfl) d_SF_simulate_90 (fun D17 => ?_)
        refine z_iincL (pc := 93) d_SF_simulate_93 ki_1 5 rfl (by decide) (fun v18 => z_lvc (lv2 := [(8, .int v18), (6, .long v15), (0, .ref a), (3, .int x3), (4, .int x4), (5, .int x5)]) rfl ?_)
        refine z_goto (pc := 96) (tgt := 62) d_SF_simulate_96 (by decide) ?_
        exact z_sub [2, 3, 4, 5, 1, 0] rfl (h62 x4 x5 v15 v18 D17)
    · refine z_aload_n (pc := 21) d_SF_simulate_21 rfl 0 rfl ?_
      refine z_getR (pc := 22) fl_SF_26 d_SF_simulate_22 (fun p19 => ?_)
      refine z_aload_n (pc := 25) d_SF_simulate_25 rfl 0 rfl ?_
      refine z_getR (pc := 26) fl_SF_19 d_SF_simulate_26 (fun p20 => ?_)
      refine z_callVv (pc := 29) [.ref p20] lkV_SF_70 rfl (c_Field_copyFrom z D2 p19 p20) (by decide) rfl rfl (Nat.le_of_ble_eq_true rfl) d_SF_simulate_29 (fun D21 => ?_)
      refine z_aload_n (pc := 32) d_SF_simulate_32 rfl 0 rfl ?_
      refine z_getR (pc := 33) fl_SF_26 d_SF_simulate_33 (fun p22 => ?_)
      refine z_getR (pc := 36) fl_SF_154 d_SF_simulate_36 (fun p23 => ?_)
      refine z_getI (pc := 39) fl_SF_158 d_SF_simulate_39 (fun v24 => ?_)
      refine z_istore (pc := 42) d_SF_simulate_42 (by decide) (lv' := [(4, .int v24), (0, .ref a), (1, .long l1), (3, .int x3)]) rfl ?_
      refine z_aload_n (pc := 44) d_SF_simulate_44 rfl 1 rfl ?_
      refine z_getR (pc := 45) fl_SF_26 d_SF_simulate_45 (fun p25 => ?_)
      refine z_getR (pc := 48) fl_SF_154 d_SF_simulate_48 (fun p26 => ?_)
      refine z_getI (pc := 51) fl_SF_166 d_SF_simulate_51 (fun v27 => ?_)
      refine z_istore (pc := 54) d_SF_simulate_54 (by decide) (lv' := [(5, .int v27), (4, .int v24), (0, .ref a), (1, .long l1), (3, .int x3)]) rfl ?_
      refine z_lload_n (pc := 56) d_SF_simulate_56 rfl 3 rfl ?_
      refine z_lstore (pc := 57) d_SF_simulate_57 (by decide) (lv' := [(6, .long l1), (5, .int v27), (4, .int v24), (0, .ref a), (1, .long l1), (3, .int x3)]) rfl ?_
      refine z_iconst (pc := 59) d_SF_simulate_59 ki_0 ?_
      refine z_istore (pc := 60) d_SF_simulate_60 (by decide) (lv' := [(8, .int (0 : Int32)), (6, .long l1), (5, .int v27), (4, .int v24), (0, .ref a), (1, .long l1), (3, .int x3)]) rfl ?_
      exact z_sub [4, 6, 3, 2, 1, 0] rfl (h62 v24 v27 l1 (0 : Int32) D21)
theorem d_SF_save_0 : decode Y_SF_save.2.1 0 = .ok (.iload_n 1, 1) := by decide +kernel
theorem d_SF_save_1 : decode Y_SF_save.2.1 1 = .ok (.iconst (0), 1) := by decide +kernel
theorem d_SF_save_2 : decode Y_SF_save.2.1 2 = .ok (.iconst (1), 1) := by decide +kernel
theorem d_SF_save_3 : decode Y_SF_save.2.1 3 = .ok (.invokestatic 40, 3) := by decide +kernel
theorem d_SF_save_6 : decode Y_SF_save.2.1 6 = .ok (.ifCond .ne (14), 3) := by decide +kernel
theorem d_SF_save_9 : decode Y_SF_save.2.1 9 = .ok (.new 178, 3) := by decide +kernel
theorem d_SF_save_12 : decode Y_SF_save.2.1 12 = .ok (.dup, 1) := by decide +kernel
theorem d_SF_save_13 : decode Y_SF_save.2.1 13 = .ok (.ldc_w 376, 3) := by decide +kernel
theorem d_SF_save_16 : decode Y_SF_save.2.1 16 = .ok (.invokespecial 182, 3) := by decide +kernel
theorem d_SF_save_19 : decode Y_SF_save.2.1 19 = .ok (.athrow, 1) := by decide +kernel
theorem d_SF_save_20 : decode Y_SF_save.2.1 20 = .ok (.aload_n 0, 1) := by decide +kernel
theorem d_SF_save_21 : decode Y_SF_save.2.1 21 = .ok (.getfield 33, 3) := by decide +kernel
theorem d_SF_save_24 : decode Y_SF_save.2.1 24 = .ok (.iload_n 1, 1) := by decide +kernel
theorem d_SF_save_25 : decode Y_SF_save.2.1 25 = .ok (.aaload, 1) := by decide +kernel
theorem d_SF_save_26 : decode Y_SF_save.2.1 26 = .ok (.aload_n 0, 1) := by decide +kernel
theorem d_SF_save_27 : decode Y_SF_save.2.1 27 = .ok (.getfield 19, 3) := by decide +kernel
theorem d_SF_save_30 : decode Y_SF_save.2.1 30 = .ok (.invokevirtual 70, 3) := by decide +kernel
theorem d_SF_save_33 : decode Y_SF_save.2.1 33 = .ok (.aload_n 0, 1) := by decide +kernel
theorem d_SF_save_34 : decode Y_SF_save.2.1 34 = .ok (.getfield 36, 3) := by decide +kernel
theorem d_SF_save_37 : decode Y_SF_save.2.1 37 = .ok (.iload_n 1, 1) := by decide +kernel
theorem d_SF_save_38 : decode Y_SF_save.2.1 38 = .ok (.iconst (1), 1) := by decide +kernel
theorem d_SF_save_39 : decode Y_SF_save.2.1 39 = .ok (.bastore, 1) := by decide +kernel
theorem d_SF_save_40 : decode Y_SF_save.2.1 40 = .ok (.aload_n 0, 1) := by decide +kernel
theorem d_SF_save_41 : decode Y_SF_save.2.1 41 = .ok (.getfield 19, 3) := by decide +kernel
theorem d_SF_save_44 : decode Y_SF_save.2.1 44 = .ok (.getfield 141, 3) := by decide +kernel
theorem d_SF_save_47 : decode Y_SF_save.2.1 47 = .ok (.ireturn, 1) := by decide +kernel
def f_SF_save (w : zW) (D : zD) (a : Nat) (x1 : Int32) : Option ((Int32 ⊕ String) × zD) := zci (f_SF_isWithin w D x1 (0 : Int32) (1 : Int32)) (fun v1 D2 => (if v1 = 0 then some (.inr "java/lang/IndexOutOfBoundsException", D2) else zref w 0 7 a (fun p3 => zald4 w p3 x1 (fun p4 => zref w 0 1 a (fun p5 => zobj w 3 p4 (zcv (f_Field_copyFrom w D2 p4 p5) (fun D6 => zref w 0 8 a (fun p7 => zast w D6 2 p7 x1 (vp_nar .boolean (1 : Int32)) (fun D8 => zref w 0 1 a (fun p9 => zfld w D8 3 5 p9 (fun v10 => some (.inl v10, D8))))))))))))
set_option maxHeartbeats 4000000 in
set_option maxRecDepth 100000 in
theorem c_SF_save (z : zT) (D : zD) (a : Nat) (x1 : Int32) : zMX Y_SF_save 8 1 6 (zqX z) (f_SF_save z.2 D a x1) [.ref a, .int x1] z D := by
  refine zMX_of (plainFor_of_name (by decide +kernel)) rfl (Nat.le_of_ble_eq_true rfl) (fun K => ?_)
  unfold f_SF_save
  refine z_iload_n (pc := 0) d_SF_save_0 rfl 1 rfl ?_
  refine z_iconst (pc := 1) d_SF_save_1 ki_0 ?_
  refine z_iconst (pc := 2) d_SF_save_2 ki_1 ?_
  refine z_callSi (pc := 3) [.int x1, .int (0 : Int32), .int (1 : Int32)] lkS_SF_40 (c_SF_isWithin z D x1 (0 : Int32) (1 : Int32)) (by decide) rfl rfl (Nat.le_of_ble_eq_true rfl) d_SF_save_3 (fun v1 D2 => ?_)
  refine z_if_ne (pc := 6) (tgt := 20) d_SF_save_6 (by decide) ?_ ?_
  · exact z_throwW (pc := 9) th_SF_178_376_182 rfl (by decide) (Nat.le_of_ble_eq_true rfl) (by decide) (by decide) d_SF_save_9 d_SF_save_12 d_SF_save_13 d_SF_save_16 d_SF_save_19
  · refine z_aload_n (pc := 20) d_SF_save_20 rfl 0 rfl ?_
    refine z_getR (pc := 21) fl_SF_33 d_SF_save_21 (fun p3 => ?_)
    refine z_iload_n (pc := 24) d_SF_save_24 rfl 1 rfl ?_
    refine z_aaload (pc := 25) d_SF_save_25 (fun p4 => ?_)
    refine z_aload_n (pc := 26) d_SF_save_26 rfl 0 rfl ?_
    refine z_getR (pc := 27) fl_SF_19 d_SF_save_27 (fun p5 => ?_)
    refine z_callVv (pc := 30) [.ref p5] lkV_SF_70 rfl (c_Field_copyFrom z D2 p4 p5) (by decide) rfl rfl (Nat.le_of_ble_eq_true rfl) d_SF_save_30 (fun D6 => ?_)
    refine z_aload_n (pc := 33) d_SF_save_33 rfl 0 rfl ?_
    refine z_getR (pc := 34) fl_SF_36 d_SF_save_34 (fun p7 => ?_)
    refine z_iload_n (pc := 37) d_SF_save_37 rfl 1 rfl ?_
    refine z_iconst (pc := 38) d_SF_save_38 ki_1 ?_
    refine z_bastore (pc := 39) d_SF_save_39 (fun D8 => ?_)
    refine z_aload_n (pc := 40) d_SF_save_40 rfl 0 rfl ?_
    refine z_getR (pc := 41) fl_SF_19 d_SF_save_41 (fun p9 => ?_)
    refine z_getI (pc := 44) fl_SF_141 d_SF_save_44 (fun v10 => ?_)
    exact z_xret (pc := 47) d_SF_save_47 rfl
theorem d_SF_restore_0 : decode Y_SF_restore.2.1 0 = .ok (.iload_n 1, 1) := by decide +kernel
theorem d_SF_restore_1 : decode Y_SF_restore.2.1 1 = .ok (.iconst (0), 1) := by decide +kernel
theorem d_SF_restore_2 : decode Y_SF_restore.2.1 2 = .ok (.iconst (1), 1) := by decide +kernel
theorem d_SF_restore_3 : decode Y_SF_restore.2.1 3 = .ok (.invokestatic 40, 3) := by decide +kernel
theorem d_SF_restore_6 : decode Y_SF_restore.2.1 6 = .ok (.ifCond .ne (14), 3) := by decide +kernel
theorem d_SF_restore_9 : decode Y_SF_restore.2.1 9 = .ok (.new 178, 3) := by decide +kernel
theorem d_SF_restore_12 : decode Y_SF_restore.2.1 12 = .ok (.dup, 1) := by decide +kernel
theorem d_SF_restore_13 : decode Y_SF_restore.2.1 13 = .ok (.ldc_w 376, 3) := by decide +kernel
theorem d_SF_restore_16 : decode Y_SF_restore.2.1 16 = .ok (.invokespecial 182, 3) := by decide +kernel
theorem d_SF_restore_19 : decode Y_SF_restore.2.1 19 = .ok (.athrow, 1) := by decide +kernel
theorem d_SF_restore_20 : decode Y_SF_restore.2.1 20 = .ok (.aload_n 0, 1) := by decide +kernel
theorem d_SF_restore_21 : decode Y_SF_restore.2.1 21 = .ok (.getfield 36, 3) := by decide +kernel
theorem d_SF_restore_24 : decode Y_SF_restore.2.1 24 = .ok (.iload_n 1, 1) := by decide +kernel
theorem d_SF_restore_25 : decode Y_SF_restore.2.1 25 = .ok (.baload, 1) := by decide +kernel
theorem d_SF_restore_26 : decode Y_SF_restore.2.1 26 = .ok (.ifCond .ne (14), 3) := by decide +kernel
theorem d_SF_restore_29 : decode Y_SF_restore.2.1 29 = .ok (.new 55, 3) := by decide +kernel
theorem d_SF_restore_32 : decode Y_SF_restore.2.1 32 = .ok (.dup, 1) := by decide +kernel
theorem d_SF_restore_33 : decode Y_SF_restore.2.1 33 = .ok (.ldc_w 378, 3) := by decide +kernel
theorem d_SF_restore_36 : decode Y_SF_restore.2.1 36 = .ok (.invokespecial 59, 3) := by decide +kernel
theorem d_SF_restore_39 : decode Y_SF_restore.2.1 39 = .ok (.athrow, 1) := by decide +kernel
theorem d_SF_restore_40 : decode Y_SF_restore.2.1 40 = .ok (.aload_n 0, 1) := by decide +kernel
theorem d_SF_restore_41 : decode Y_SF_restore.2.1 41 = .ok (.getfield 19, 3) := by decide +kernel
theorem d_SF_restore_44 : decode Y_SF_restore.2.1 44 = .ok (.aload_n 0, 1) := by decide +kernel
theorem d_SF_restore_45 : decode Y_SF_restore.2.1 45 = .ok (.getfield 33, 3) := by decide +kernel
theorem d_SF_restore_48 : decode Y_SF_restore.2.1 48 = .ok (.iload_n 1, 1) := by decide +kernel
theorem d_SF_restore_49 : decode Y_SF_restore.2.1 49 = .ok (.aaload, 1) := by decide +kernel
theorem d_SF_restore_50 : decode Y_SF_restore.2.1 50 = .ok (.invokevirtual 70, 3) := by decide +kernel
theorem d_SF_restore_53 : decode Y_SF_restore.2.1 53 = .ok (.aload_n 0, 1) := by decide +kernel
theorem d_SF_restore_54 : decode Y_SF_restore.2.1 54 = .ok (.invokevirtual 74, 3) := by decide +kernel
theorem d_SF_restore_57 : decode Y_SF_restore.2.1 57 = .ok (.aload_n 0, 1) := by decide +kernel
theorem d_SF_restore_58 : decode Y_SF_restore.2.1 58 = .ok (.getfield 19, 3) := by decide +kernel
theorem d_SF_restore_61 : decode Y_SF_restore.2.1 61 = .ok (.getfield 141, 3) := by decide +kernel
theorem d_SF_restore_64 : decode Y_SF_restore.2.1 64 = .ok (.ireturn, 1) := by decide +kernel
def f_SF_restore (w : zW) (D : zD) (a : Nat) (x1 : Int32) : Option ((Int32 ⊕ String) × zD) := zci (f_SF_isWithin w D x1 (0 : Int32) (1 : Int32)) (fun v1 D2 => (if v1 = 0 then some (.inr "java/lang/IndexOutOfBoundsException", D2) else zref w 0 8 a (fun p3 => zald w D2 2 p3 x1 (fun v4 => (if v4 = 0 then some (.inr "java/lang/IllegalStateException", D2) else zref w 0 1 a (fun p5 => zref w 0 7 a (fun p6 => zald4 w p6 x1 (fun p7 => zobj w 3 p5 (zcv (f_Field_copyFrom w D2 p5 p7) (fun D8 => zobj w 0 a (zcv (f_SF_forgetRemembered w D8 a ) (fun D9 => zref w 0 1 a (fun p10 => zfld w D9 3 5 p10 (fun v11 => some (.inl v11, D9)))))))))))))))
set_option maxHeartbeats 4000000 in
set_option maxRecDepth 100000 in
theorem c_SF_restore (z : zT) (D : zD) (a : Nat) (x1 : Int32) : zMX Y_SF_restore 8 1 6 (zqX z) (f_SF_restore z.2 D a x1) [.ref a, .int x1] z D := by
  refine zMX_of (plainFor_of_name (by decide +kernel)) rfl (Nat.le_of_ble_eq_true rfl) (fun K => ?_)
  unfold f_SF_restore
  refine z_iload_n (pc := 0) d_SF_restore_0 rfl 1 rfl ?_
  refine z_iconst (pc := 1) d_SF_restore_1 ki_0 ?_
  refine z_iconst (pc := 2) d_SF_restore_2 ki_1 ?_
  refine z_callSi (pc := 3) [.int x1, .int (0 : Int32), .int (1 : Int32)] lkS_SF_40 (c_SF_isWithin z D x1 (0 : Int32) (1 : Int32)) (by decide) rfl rfl (Nat.le_of_ble_eq_true rfl) d_SF_restore_3 (fun v1 D2 => ?_)
  refine z_if_ne (pc := 6) (tgt := 20) d_SF_restore_6 (by decide) ?_ ?_
  · exact z_throwW (pc := 9) th_SF_178_376_182 rfl (by decide) (Nat.le_of_ble_eq_true rfl) (by decide) (by decide) d_SF_restore_9 d_SF_restore_12 d_SF_restore_13 d_SF_restore_16 d_SF_restore_19
  · refine z_aload_n (pc := 20) d_SF_restore_20 rfl 0 rfl ?_
    refine z_getR (pc := 21) fl_SF_36 d_SF_restore_21 (fun p3 => ?_)
    refine z_iload_n (pc := 24) d_SF_restore_24 rfl 1 rfl ?_
    refine z_baload (pc := 25) d_SF_restore_25 (fun v4 => ?_)
    refine z_if_ne (pc := 26) (tgt := 40) d_SF_restore_26 (by decide) ?_ ?_
    · exact z_throwW (pc := 29) th_SF_55_378_59 rfl (by decide) (Nat.le_of_ble_eq_true rfl) (by decide) (by decide) d_SF_restore_29 d_SF_restore_32 d_SF_restore_33 d_SF_restore_36 d_SF_restore_39
    · refine z_aload_n (pc := 40) d_SF_restore_40 rfl 0 rfl ?_
      refine z_getR (pc := 41) fl_SF_19 d_SF_restore_41 (fun p5 => ?_)
      refine z_aload_n (pc := 44) d_SF_restore_44 rfl 0 rfl ?_
      refine z_getR (pc := 45) fl_SF_33 d_SF_restore_45 (fun p6 => ?_)
      refine z_iload_n (pc := 48) d_SF_restore_48 rfl 1 rfl ?_
      refine z_aaload (pc := 49) d_SF_restore_49 (fun p7 => ?_)
      refine z_callVv (pc := 50) [.ref p7] lkV_SF_70 rfl (c_Field_copyFrom z D2 p5 p7) (by decide) rfl rfl (Nat.le_of_ble_eq_true rfl) d_SF_restore_50 (fun D8 => ?_)
      refine z_aload_n (pc := 53) d_SF_restore_53 rfl 0 rfl ?_
      refine z_callVv (pc := 54) [] lkV_SF_74 rfl (c_SF_forgetRemembered z D8 a ) (by decide) rfl rfl (Nat.le_of_ble_eq_true rfl) d_SF_restore_54 (fun D9 => ?_)
      refine z_aload_n (pc := 57) d_SF_restore_57 rfl 0 rfl ?_
      refine z_getR (pc := 58) fl_SF_19 d_SF_restore_58 (fun p10 => ?_)
      refine z_getI (pc := 61) fl_SF_141 d_SF_restore_61 (fun v11 => ?_)
      exact z_xret (pc := 64) d_SF_restore_64 rfl
